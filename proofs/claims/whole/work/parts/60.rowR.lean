variable {p : Program} {l : Launch} {e : Env} {s : State} {m : MethodId} {args : Array Value} {below : List Frame} {meth : Method} {c : Code} {D : va_G} {A : Nat → Prop} {cI cL cZ : ClassId} {Q : State → Prop}
set_option maxRecDepth 100000 in
set_option maxHeartbeats 4000000 in
theorem s_R_duel_l32 (C : kC p l e rm_R_duel s m args below meth c D (tyG cI cL cZ) A 8 cX5_duel yX5_duel.cls (Cond.code yX5_duel cX5_duel 8 (some .int) :: WS) (some .int)) {a_this : Nat} {a_gravel : Nat} {a_kind : Nat} {a_own : Nat} {a_likely : Nat} {a_tape : Nat} {a_holding : Nat} {a_rowLength : Nat} {a_rowOf : Nat} {a_refusals : Nat} {a_old : Nat} {a_ahead : Nat} {a_cost : Nat} {a_may : Nat} {a_rest : Nat} {a_way : Nat} {v1 : Int32} {v2 : Int32} {v3 : Int32} {v4 : Int32} {v5 : Int32} {c_n : Int32} {c_rain : Int32} {c_ear : Int32} {c_many : Int32} {c_seed : Int32} {c_taped : Int32} {c_from : Int32} {c_to : Int32} {c_token : Int32} {c_value : Int32} {c_imaged : Int32} {c_gravel : (Nat → Int32)} {c_kind : (Nat → Int32)} {c_own : (Nat → Int32)} {c_refusals : (Nat → Int32)} {c_cost : (Nat → Int32)} {c_may : (Nat → Int32)} {c_rest : (Nat → Int32)} {c_way : (Nat → Int32)} {x : (Int32 × Int32 × (Nat → Int32) × (Nat → Int32) × (Nat → Int32) × (Nat → Int32) × (Nat → Int32))} (h : f_R_duel_l32 v1 c_n c_rain c_kind c_own v3 v4 v5 c_gravel c_cost c_may c_rest c_way = some x)
    (k0 : kW p l e rm_R_duel s m args below meth c D A 8 (cells_R_duel cI cL cZ a_this a_gravel a_kind a_own a_likely a_tape a_holding a_rowLength a_rowOf a_refusals a_old a_ahead a_cost a_may a_rest a_way c_n c_rain c_ear c_many c_seed c_taped c_from c_to c_token c_value c_imaged x.2.2.1 c_kind c_own c_refusals x.2.2.2.1 x.2.2.2.2.1 x.2.2.2.2.2.1 x.2.2.2.2.2.2) [(2, .int v2), (3, .int x.1), (4, .int x.2.1)] Q 103 []) :
    kW p l e rm_R_duel s m args below meth c D A 8 (cells_R_duel cI cL cZ a_this a_gravel a_kind a_own a_likely a_tape a_holding a_rowLength a_rowOf a_refusals a_old a_ahead a_cost a_may a_rest a_way c_n c_rain c_ear c_many c_seed c_taped c_from c_to c_token c_value c_imaged c_gravel c_kind c_own c_refusals c_cost c_may c_rest c_way) [(0, .ref a_this), (1, .int v1), (2, .int v2), (3, .int v3), (4, .int v4), (5, .int v5)] Q 32 [] := by
  unfold f_R_duel_l32 at h
  exact iter_W (T := fun sg => kW p l e rm_R_duel s m args below meth c D A 8 (cells_R_duel cI cL cZ a_this a_gravel a_kind a_own a_likely a_tape a_holding a_rowLength a_rowOf a_refusals a_old a_ahead a_cost a_may a_rest a_way c_n c_rain c_ear c_many c_seed c_taped c_from c_to c_token c_value c_imaged sg.2.2.2.1 c_kind c_own c_refusals sg.2.2.2.2.1 sg.2.2.2.2.2.1 sg.2.2.2.2.2.2.1 sg.2.2.2.2.2.2.2) [(0, .ref a_this), (1, .int v1), (2, .int v2), (3, .int sg.1), (4, .int sg.2.1), (5, .int sg.2.2.1)] Q 32 []) (fun sg y hy hc _ hr => s_R_duel_b32 C hy (fun s' e => hc s' e) (fun r e => by rw [hr r e]; exact k0)) FUEL _ h
set_option maxRecDepth 100000 in
set_option maxHeartbeats 4000000 in
theorem s_R_duel (C : kC p l e rm_R_duel s m args below meth c D (tyG cI cL cZ) A 8 cX5_duel yX5_duel.cls (Cond.code yX5_duel cX5_duel 8 (some .int) :: WS) (some .int)) {a_this : Nat} {a_gravel : Nat} {a_kind : Nat} {a_own : Nat} {a_likely : Nat} {a_tape : Nat} {a_holding : Nat} {a_rowLength : Nat} {a_rowOf : Nat} {a_refusals : Nat} {a_old : Nat} {a_ahead : Nat} {a_cost : Nat} {a_may : Nat} {a_rest : Nat} {a_way : Nat} {v1 : Int32} {v2 : Int32} {c_n : Int32} {c_rain : Int32} {c_ear : Int32} {c_many : Int32} {c_seed : Int32} {c_taped : Int32} {c_from : Int32} {c_to : Int32} {c_token : Int32} {c_value : Int32} {c_imaged : Int32} {c_gravel : (Nat → Int32)} {c_kind : (Nat → Int32)} {c_own : (Nat → Int32)} {c_refusals : (Nat → Int32)} {c_cost : (Nat → Int32)} {c_may : (Nat → Int32)} {c_rest : (Nat → Int32)} {c_way : (Nat → Int32)} {x : (Int32 × (Nat → Int32) × (Nat → Int32) × (Nat → Int32) × (Nat → Int32) × (Nat → Int32) × (Nat → Int32))} (h : f_R_duel v1 v2 c_n c_rain c_many c_gravel c_kind c_own c_refusals c_cost c_may c_rest c_way = some x) :
    kW p l e rm_R_duel s m args below meth c D A 8 (cells_R_duel cI cL cZ a_this a_gravel a_kind a_own a_likely a_tape a_holding a_rowLength a_rowOf a_refusals a_old a_ahead a_cost a_may a_rest a_way c_n c_rain c_ear c_many c_seed c_taped c_from c_to c_token c_value c_imaged c_gravel c_kind c_own c_refusals c_cost c_may c_rest c_way) [(0, .ref a_this), (1, .int v1), (2, .int v2)] (MQ below (kQi D A (cells_R_duel cI cL cZ a_this a_gravel a_kind a_own a_likely a_tape a_holding a_rowLength a_rowOf a_refusals a_old a_ahead a_cost a_may a_rest a_way c_n c_rain c_ear c_many c_seed c_taped c_from c_to c_token c_value c_imaged x.2.1 c_kind c_own x.2.2.1 x.2.2.2.1 x.2.2.2.2.1 x.2.2.2.2.2.1 x.2.2.2.2.2.2) x.1) args s 0 0 A) 0 [] := by
  unfold f_R_duel at h
  refine k_aload_n C dX5_duel_0 0 rfl rfl ?_
  refine k_iload_n C dX5_duel_1 1 rfl rfl ?_
  obtain ⟨x1, hx1, h⟩ := bindE h
  refine kcallR_i C (wc := (cells_R_isFeet cI cL cZ a_this a_gravel a_kind a_own a_likely a_tape a_holding a_rowLength a_rowOf a_refusals a_old a_ahead a_cost a_may a_rest a_way c_n c_rain c_ear c_many c_seed c_taped c_from c_to c_token c_value c_imaged)) (r := x1) [0] (fun H locs ls hP hD hS hF hz => krunV C (q0 := 0) (ci := 5) (c_R_isFeet l D cI cL cZ H.size a_this a_gravel a_kind a_own a_likely a_tape a_holding a_rowLength a_rowOf a_refusals a_old a_ahead a_cost a_may a_rest a_way v1 c_n c_rain c_ear c_many c_seed c_taped c_from c_to c_token c_value c_imaged x1 hx1) (cwV 1 C.2.2.2.2.1 (gV wq_568 wq_569 wq_570 wq_544 wq_567) rfl rfl rfl (by decide +kernel) ⟨(Nat.le_of_ble_eq_true rfl), (Nat.le_of_ble_eq_true rfl)⟩) rfl rfl kEnv_T rfl rfl (Nat.le_of_ble_eq_true rfl) dX5_duel_2 hP hD hz) rfl (by decide) ?_
  refine k_if_eq C (tgt := 17) dX5_duel_5 (by decide) (fun c_5 => ?_) (fun c_5 => ?_)
  · have h := ifT c_5 h
    refine k_lv (lv' := [(0, .ref a_this)]) [0] rfl ?_
    exact s_R_duel_j17 C h
  · have h := ifF c_5 h
    refine k_iload_n C dX5_duel_8 2 rfl rfl ?_
    refine k_iconst C (v := (0 : Int32)) dX5_duel_9 (by decide) ?_
    refine k_iconst C (v := (1 : Int32)) dX5_duel_10 (by decide) ?_
    obtain ⟨x3, hx3, h⟩ := bindE h
    refine kcallE_i C (r := x3) (fun H locs ls hP hD hS hF hz => krunS C (c_R_within l D cI cL cZ H.size v2 (0 : Int32) (1 : Int32) x3 hx3) (va_cwS 3 C.2.2.2.2.1 (gS wq_542 wq_543 wq_544 wq_541) rfl rfl rfl (by decide +kernel) ⟨(Nat.le_of_ble_eq_true rfl), (Nat.le_of_ble_eq_true rfl)⟩) kEnv_T rfl rfl (Nat.le_of_ble_eq_true rfl) dX5_duel_11 hP hD hz) ?_
    refine k_if_ne C (tgt := 24) dX5_duel_14 (by decide) (fun c_14 => ?_) (fun c_14 => ?_)
    · have h := ifF c_14 h
      refine k_iconst C (v := (0 : Int32)) dX5_duel_24 (by decide) ?_
      refine k_istore_n C (lv' := [(3, .int (0 : Int32)), (0, .ref a_this), (1, .int v1), (2, .int v2)]) dX5_duel_25 rfl (by decide) rfl ?_
      refine k_iconst C (v := (-1 : Int32)) dX5_duel_26 (by decide) ?_
      refine k_istore C (lv' := [(4, .int (-1 : Int32)), (3, .int (0 : Int32)), (0, .ref a_this), (1, .int v1), (2, .int v2)]) dX5_duel_27 (by decide) rfl ?_
      refine k_iconst C (v := (0 : Int32)) dX5_duel_29 (by decide) ?_
      refine k_istore C (lv' := [(5, .int (0 : Int32)), (4, .int (-1 : Int32)), (3, .int (0 : Int32)), (0, .ref a_this), (1, .int v1), (2, .int v2)]) dX5_duel_30 (by decide) rfl ?_
      obtain ⟨x8, hx8, h⟩ := bindE h
      refine k_lv (lv' := [(0, .ref a_this), (1, .int v1), (2, .int v2), (3, .int (0 : Int32)), (4, .int (-1 : Int32)), (5, .int (0 : Int32))]) [3, 4, 5, 2, 1, 0] rfl ?_
      refine s_R_duel_l32 C hx8 ?_
      refine k_iload_n C dX5_duel_103 0 rfl rfl ?_
      refine k_if_ne C (tgt := 111) dX5_duel_104 (by decide) (fun c_104 => ?_) (fun c_104 => ?_)
      · have h := ifF c_104 h
        refine k_iload C dX5_duel_111 2 rfl ?_
        obtain rfl := Option.some.inj h
        exact kret_i C rfl dX5_duel_113
      · have h := ifT c_104 h
        refine k_iload_n C dX5_duel_107 1 rfl rfl ?_
        refine k_goto C (tgt := 113) dX5_duel_108 (by decide) ?_
        obtain rfl := Option.some.inj h
        exact kret_i C rfl dX5_duel_113
    · have h := ifT c_14 h
      refine k_lv (lv' := [(0, .ref a_this)]) [0] rfl ?_
      exact s_R_duel_j17 C h
theorem c_R_duel (l : Launch) (D : va_G) (cI : ClassId) (cL : ClassId) (cZ : ClassId) (sz : Nat) (a_this : Nat) (a_gravel : Nat) (a_kind : Nat) (a_own : Nat) (a_likely : Nat) (a_tape : Nat) (a_holding : Nat) (a_rowLength : Nat) (a_rowOf : Nat) (a_refusals : Nat) (a_old : Nat) (a_ahead : Nat) (a_cost : Nat) (a_may : Nat) (a_rest : Nat) (a_way : Nat) (v1 : Int32) (v2 : Int32) (c_n : Int32) (c_rain : Int32) (c_ear : Int32) (c_many : Int32) (c_seed : Int32) (c_taped : Int32) (c_from : Int32) (c_to : Int32) (c_token : Int32) (c_value : Int32) (c_imaged : Int32) (c_gravel : (Nat → Int32)) (c_kind : (Nat → Int32)) (c_own : (Nat → Int32)) (c_refusals : (Nat → Int32)) (c_cost : (Nat → Int32)) (c_may : (Nat → Int32)) (c_rest : (Nat → Int32)) (c_way : (Nat → Int32)) (x : (Int32 × (Nat → Int32) × (Nat → Int32) × (Nat → Int32) × (Nat → Int32) × (Nat → Int32) × (Nat → Int32))) (h : f_R_duel v1 v2 c_n c_rain c_many c_gravel c_kind c_own c_refusals c_cost c_may c_rest c_way = some x) :
    Met l yX5_duel (Cond.code yX5_duel cX5_duel 8 (some .int) :: WS) rm_R_duel (kP D (tyG cI cL cZ) kTrue [.ref a_this, .int v1, .int v2] sz (cells_R_duel cI cL cZ a_this a_gravel a_kind a_own a_likely a_tape a_holding a_rowLength a_rowOf a_refusals a_old a_ahead a_cost a_may a_rest a_way c_n c_rain c_ear c_many c_seed c_taped c_from c_to c_token c_value c_imaged c_gravel c_kind c_own c_refusals c_cost c_may c_rest c_way)) (kQi D (va_A (cells_R_duel cI cL cZ a_this a_gravel a_kind a_own a_likely a_tape a_holding a_rowLength a_rowOf a_refusals a_old a_ahead a_cost a_may a_rest a_way c_n c_rain c_ear c_many c_seed c_taped c_from c_to c_token c_value c_imaged c_gravel c_kind c_own c_refusals c_cost c_may c_rest c_way) sz) (cells_R_duel cI cL cZ a_this a_gravel a_kind a_own a_likely a_tape a_holding a_rowLength a_rowOf a_refusals a_old a_ahead a_cost a_may a_rest a_way c_n c_rain c_ear c_many c_seed c_taped c_from c_to c_token c_value c_imaged x.2.1 c_kind c_own x.2.2.1 x.2.2.2.1 x.2.2.2.2.1 x.2.2.2.2.2.1 x.2.2.2.2.2.2) x.1) 0 0 (va_A (cells_R_duel cI cL cZ a_this a_gravel a_kind a_own a_likely a_tape a_holding a_rowLength a_rowOf a_refusals a_old a_ahead a_cost a_may a_rest a_way c_n c_rain c_ear c_many c_seed c_taped c_from c_to c_token c_value c_imaged c_gravel c_kind c_own c_refusals c_cost c_may c_rest c_way) sz) :=
  kmet (by decide) (Nat.le_of_ble_eq_true rfl) rfl (fun p e s m below meth c C hE => s_R_duel C h)
abbrev cells_R_noWay (cI : ClassId) (cL : ClassId) (cZ : ClassId) (a_this : Nat) (a_gravel : Nat) (a_kind : Nat) (a_own : Nat) (a_likely : Nat) (a_tape : Nat) (a_holding : Nat) (a_rowLength : Nat) (a_rowOf : Nat) (a_refusals : Nat) (a_old : Nat) (a_ahead : Nat) (a_cost : Nat) (a_may : Nat) (a_rest : Nat) (a_way : Nat) (c_n : Int32) (c_rain : Int32) (c_ear : Int32) (c_many : Int32) (c_seed : Int32) (c_taped : Int32) (c_from : Int32) (c_to : Int32) (c_token : Int32) (c_value : Int32) (c_imaged : Int32) (c_holding : (Nat → Int32)) (c_rowLength : (Nat → Int32)) : va_W := [(a_this, .inr (5, [.int c_n, .ref a_gravel, .int c_rain, .int c_ear, .int c_many, .ref a_kind, .ref a_own, .ref a_likely, .int c_seed, .int c_taped, .ref a_tape, .int c_from, .int c_to, .int c_token, .int c_value, .ref a_holding, .ref a_rowLength, .ref a_rowOf, .ref a_refusals, .int c_imaged, .ref a_old, .ref a_ahead, .ref a_cost, .ref a_may, .ref a_rest, .ref a_way])), (a_holding, .inl (cI, 8, .inl c_holding)), (a_rowLength, .inl (cI, 8, .inl c_rowLength))]
abbrev rm_R_noWay : Room := { frames := 2, cells := 0, slots := 0, locals := 43 }
set_option maxRecDepth 100000 in
set_option maxHeartbeats 4000000 in
theorem s_R_noWay (C : kC p l e rm_R_noWay s m args below meth c D (tyG cI cL cZ) A 3 cX5_noWay yX5_noWay.cls (Cond.code yX5_noWay cX5_noWay 3 (some .int) :: WS) (some .int)) {a_this : Nat} {a_gravel : Nat} {a_kind : Nat} {a_own : Nat} {a_likely : Nat} {a_tape : Nat} {a_holding : Nat} {a_rowLength : Nat} {a_rowOf : Nat} {a_refusals : Nat} {a_old : Nat} {a_ahead : Nat} {a_cost : Nat} {a_may : Nat} {a_rest : Nat} {a_way : Nat} {v1 : Int32} {v2 : Int32} {c_n : Int32} {c_rain : Int32} {c_ear : Int32} {c_many : Int32} {c_seed : Int32} {c_taped : Int32} {c_from : Int32} {c_to : Int32} {c_token : Int32} {c_value : Int32} {c_imaged : Int32} {c_holding : (Nat → Int32)} {c_rowLength : (Nat → Int32)} {x : Int32} (h : f_R_noWay v1 v2 c_holding c_rowLength = some x) :
    kW p l e rm_R_noWay s m args below meth c D A 3 (cells_R_noWay cI cL cZ a_this a_gravel a_kind a_own a_likely a_tape a_holding a_rowLength a_rowOf a_refusals a_old a_ahead a_cost a_may a_rest a_way c_n c_rain c_ear c_many c_seed c_taped c_from c_to c_token c_value c_imaged c_holding c_rowLength) [(0, .ref a_this), (1, .int v1), (2, .int v2)] (MQ below (kQi D A (cells_R_noWay cI cL cZ a_this a_gravel a_kind a_own a_likely a_tape a_holding a_rowLength a_rowOf a_refusals a_old a_ahead a_cost a_may a_rest a_way c_n c_rain c_ear c_many c_seed c_taped c_from c_to c_token c_value c_imaged c_holding c_rowLength) x) args s 0 0 A) 0 [] := by
  unfold f_R_noWay at h
  refine k_aload_n C dX5_noWay_0 0 rfl rfl ?_
  refine k_iload_n C dX5_noWay_1 1 rfl rfl ?_
  obtain ⟨x1, hx1, h⟩ := bindE h
  refine kcallR_i C (wc := (cells_R_isRow cI cL cZ a_this a_gravel a_kind a_own a_likely a_tape a_holding a_rowLength a_rowOf a_refusals a_old a_ahead a_cost a_may a_rest a_way c_n c_rain c_ear c_many c_seed c_taped c_from c_to c_token c_value c_imaged c_holding)) (r := x1) [0, 1] (fun H locs ls hP hD hS hF hz => krunV C (q0 := 0) (ci := 5) (c_R_isRow l D cI cL cZ H.size a_this a_gravel a_kind a_own a_likely a_tape a_holding a_rowLength a_rowOf a_refusals a_old a_ahead a_cost a_may a_rest a_way v1 c_n c_rain c_ear c_many c_seed c_taped c_from c_to c_token c_value c_imaged c_holding x1 hx1) (cwV 1 C.2.2.2.2.1 (gV wq_557 wq_558 wq_559 wq_544 wq_556) rfl rfl rfl (by decide +kernel) ⟨(Nat.le_of_ble_eq_true rfl), (Nat.le_of_ble_eq_true rfl)⟩) rfl rfl kEnv_T rfl rfl (Nat.le_of_ble_eq_true rfl) dX5_noWay_2 hP hD hz) rfl (by decide) ?_
  refine k_if_ne C (tgt := 16) dX5_noWay_5 (by decide) (fun c_5 => ?_) (fun c_5 => ?_)
  · have h := ifF c_5 h
    refine k_iload_n C dX5_noWay_16 2 rfl rfl ?_
    refine k_aload_n C dX5_noWay_17 0 rfl rfl ?_
    refine k_get C (C0 := RX5) (T := TX5) (N := 26) (fun w h => List.mem_cons_of_mem _ (us_R w h)) 0 rfl rfl 16 (by decide) (List.mem_cons_of_mem _ wq_554) rfl rfl dX5_noWay_18 ?_
    refine k_iload_n C dX5_noWay_21 1 rfl rfl ?_
    obtain ⟨x2, hx2, h⟩ := bindE h
    refine k_iald C 2 0 rfl rfl hx2 dX5_noWay_22 ?_
    refine k_icmp_le C (tgt := 31) dX5_noWay_23 (by decide) (fun c_23 => ?_) (fun c_23 => ?_)
    · have h := ifT c_23 h
      refine k_iconst C (v := (0 : Int32)) dX5_noWay_31 (by decide) ?_
      obtain rfl := Option.some.inj h
      exact kret_i C rfl dX5_noWay_32
    · have h := ifF c_23 h
      refine k_bipush C (v := (-2 : Int32)) dX5_noWay_26 (by decide) ?_
      refine k_goto C (tgt := 32) dX5_noWay_28 (by decide) ?_
      obtain rfl := Option.some.inj h
      exact kret_i C rfl dX5_noWay_32
  · have h := ifT c_5 h
    refine k_aload_n C dX5_noWay_8 0 rfl rfl ?_
    refine k_iload_n C dX5_noWay_9 1 rfl rfl ?_
    obtain ⟨x3, hx3, h⟩ := bindE h
    refine kcallR_i C (wc := (cells_R_noRow cI cL cZ a_this a_gravel a_kind a_own a_likely a_tape a_holding a_rowLength a_rowOf a_refusals a_old a_ahead a_cost a_may a_rest a_way c_n c_rain c_ear c_many c_seed c_taped c_from c_to c_token c_value c_imaged c_holding)) (r := x3) [0, 1] (fun H locs ls hP hD hS hF hz => krunV C (q0 := 0) (ci := 5) (c_R_noRow l D cI cL cZ H.size a_this a_gravel a_kind a_own a_likely a_tape a_holding a_rowLength a_rowOf a_refusals a_old a_ahead a_cost a_may a_rest a_way v1 c_n c_rain c_ear c_many c_seed c_taped c_from c_to c_token c_value c_imaged c_holding x3 hx3) (cwV 1 C.2.2.2.2.1 (gV wq_564 wq_565 wq_566 wq_544 wq_563) rfl rfl rfl (by decide +kernel) ⟨(Nat.le_of_ble_eq_true rfl), (Nat.le_of_ble_eq_true rfl)⟩) rfl rfl kEnv_T rfl rfl (Nat.le_of_ble_eq_true rfl) dX5_noWay_10 hP hD hz) rfl (by decide) ?_
    refine k_goto C (tgt := 32) dX5_noWay_13 (by decide) ?_
    obtain rfl := Option.some.inj h
    exact kret_i C rfl dX5_noWay_32
theorem c_R_noWay (l : Launch) (D : va_G) (cI : ClassId) (cL : ClassId) (cZ : ClassId) (sz : Nat) (a_this : Nat) (a_gravel : Nat) (a_kind : Nat) (a_own : Nat) (a_likely : Nat) (a_tape : Nat) (a_holding : Nat) (a_rowLength : Nat) (a_rowOf : Nat) (a_refusals : Nat) (a_old : Nat) (a_ahead : Nat) (a_cost : Nat) (a_may : Nat) (a_rest : Nat) (a_way : Nat) (v1 : Int32) (v2 : Int32) (c_n : Int32) (c_rain : Int32) (c_ear : Int32) (c_many : Int32) (c_seed : Int32) (c_taped : Int32) (c_from : Int32) (c_to : Int32) (c_token : Int32) (c_value : Int32) (c_imaged : Int32) (c_holding : (Nat → Int32)) (c_rowLength : (Nat → Int32)) (x : Int32) (h : f_R_noWay v1 v2 c_holding c_rowLength = some x) :
    Met l yX5_noWay (Cond.code yX5_noWay cX5_noWay 3 (some .int) :: WS) rm_R_noWay (kP D (tyG cI cL cZ) kTrue [.ref a_this, .int v1, .int v2] sz (cells_R_noWay cI cL cZ a_this a_gravel a_kind a_own a_likely a_tape a_holding a_rowLength a_rowOf a_refusals a_old a_ahead a_cost a_may a_rest a_way c_n c_rain c_ear c_many c_seed c_taped c_from c_to c_token c_value c_imaged c_holding c_rowLength)) (kQi D (va_A (cells_R_noWay cI cL cZ a_this a_gravel a_kind a_own a_likely a_tape a_holding a_rowLength a_rowOf a_refusals a_old a_ahead a_cost a_may a_rest a_way c_n c_rain c_ear c_many c_seed c_taped c_from c_to c_token c_value c_imaged c_holding c_rowLength) sz) (cells_R_noWay cI cL cZ a_this a_gravel a_kind a_own a_likely a_tape a_holding a_rowLength a_rowOf a_refusals a_old a_ahead a_cost a_may a_rest a_way c_n c_rain c_ear c_many c_seed c_taped c_from c_to c_token c_value c_imaged c_holding c_rowLength) x) 0 0 (va_A (cells_R_noWay cI cL cZ a_this a_gravel a_kind a_own a_likely a_tape a_holding a_rowLength a_rowOf a_refusals a_old a_ahead a_cost a_may a_rest a_way c_n c_rain c_ear c_many c_seed c_taped c_from c_to c_token c_value c_imaged c_holding c_rowLength) sz) :=
  kmet (by decide) (Nat.le_of_ble_eq_true rfl) rfl (fun p e s m below meth c C hE => s_R_noWay C h)
abbrev cells_R_wrong (cI : ClassId) (cL : ClassId) (cZ : ClassId) (a_this : Nat) (a_gravel : Nat) (a_kind : Nat) (a_own : Nat) (a_likely : Nat) (a_tape : Nat) (a_holding : Nat) (a_rowLength : Nat) (a_rowOf : Nat) (a_refusals : Nat) (a_old : Nat) (a_ahead : Nat) (a_cost : Nat) (a_may : Nat) (a_rest : Nat) (a_way : Nat) (c_n : Int32) (c_rain : Int32) (c_ear : Int32) (c_many : Int32) (c_seed : Int32) (c_taped : Int32) (c_from : Int32) (c_to : Int32) (c_token : Int32) (c_value : Int32) (c_imaged : Int32) (c_rowOf : (Nat → Int64)) : va_W := [(a_this, .inr (5, [.int c_n, .ref a_gravel, .int c_rain, .int c_ear, .int c_many, .ref a_kind, .ref a_own, .ref a_likely, .int c_seed, .int c_taped, .ref a_tape, .int c_from, .int c_to, .int c_token, .int c_value, .ref a_holding, .ref a_rowLength, .ref a_rowOf, .ref a_refusals, .int c_imaged, .ref a_old, .ref a_ahead, .ref a_cost, .ref a_may, .ref a_rest, .ref a_way])), (a_rowOf, .inl (cL, 320, .inr (.inl c_rowOf)))]
abbrev rm_R_wrong : Room := { frames := 2, cells := 0, slots := 0, locals := 42 }
set_option maxRecDepth 100000 in
set_option maxHeartbeats 4000000 in
theorem s_R_wrong_b2 (C : kC p l e rm_R_wrong s m args below meth c D (tyG cI cL cZ) A 6 cX5_wrong yX5_wrong.cls (Cond.code yX5_wrong cX5_wrong 6 (some .int) :: WS) (some .int)) {a_this : Nat} {a_gravel : Nat} {a_kind : Nat} {a_own : Nat} {a_likely : Nat} {a_tape : Nat} {a_holding : Nat} {a_rowLength : Nat} {a_rowOf : Nat} {a_refusals : Nat} {a_old : Nat} {a_ahead : Nat} {a_cost : Nat} {a_may : Nat} {a_rest : Nat} {a_way : Nat} {v1 : Int32} {v2 : Int32} {v3 : Int32} {c_n : Int32} {c_rain : Int32} {c_ear : Int32} {c_many : Int32} {c_seed : Int32} {c_taped : Int32} {c_from : Int32} {c_to : Int32} {c_token : Int32} {c_value : Int32} {c_imaged : Int32} {c_rowOf : (Nat → Int64)} {x : (Int32 ⊕ (Int32 ⊕ (Int32 ⊕ Unit)))} (h : f_R_wrong_b2 v1 v2 c_n c_rowOf v3 = some x)
    (kc : ∀ s', x = .inl s' → kW p l e rm_R_wrong s m args below meth c D A 6 (cells_R_wrong cI cL cZ a_this a_gravel a_kind a_own a_likely a_tape a_holding a_rowLength a_rowOf a_refusals a_old a_ahead a_cost a_may a_rest a_way c_n c_rain c_ear c_many c_seed c_taped c_from c_to c_token c_value c_imaged c_rowOf) [(0, .ref a_this), (1, .int v1), (2, .int v2), (3, .int s')] Q 2 [])
    (k0 : ∀ r, x = .inr (.inl r) → kW p l e rm_R_wrong s m args below meth c D A 6 (cells_R_wrong cI cL cZ a_this a_gravel a_kind a_own a_likely a_tape a_holding a_rowLength a_rowOf a_refusals a_old a_ahead a_cost a_may a_rest a_way c_n c_rain c_ear c_many c_seed c_taped c_from c_to c_token c_value c_imaged c_rowOf) [(3, .int r)] Q 60 [])
    (k1 : ∀ r, x = .inr (.inr (.inl r)) → kW p l e rm_R_wrong s m args below meth c D A 6 (cells_R_wrong cI cL cZ a_this a_gravel a_kind a_own a_likely a_tape a_holding a_rowLength a_rowOf a_refusals a_old a_ahead a_cost a_may a_rest a_way c_n c_rain c_ear c_many c_seed c_taped c_from c_to c_token c_value c_imaged c_rowOf) [(3, .int r)] Q 85 [])
    (k2 : ∀ r, x = .inr (.inr (.inr r)) → kW p l e rm_R_wrong s m args below meth c D A 6 (cells_R_wrong cI cL cZ a_this a_gravel a_kind a_own a_likely a_tape a_holding a_rowLength a_rowOf a_refusals a_old a_ahead a_cost a_may a_rest a_way c_n c_rain c_ear c_many c_seed c_taped c_from c_to c_token c_value c_imaged c_rowOf) [(0, .ref a_this), (2, .int v2)] Q 93 []) :
    kW p l e rm_R_wrong s m args below meth c D A 6 (cells_R_wrong cI cL cZ a_this a_gravel a_kind a_own a_likely a_tape a_holding a_rowLength a_rowOf a_refusals a_old a_ahead a_cost a_may a_rest a_way c_n c_rain c_ear c_many c_seed c_taped c_from c_to c_token c_value c_imaged c_rowOf) [(0, .ref a_this), (1, .int v1), (2, .int v2), (3, .int v3)] Q 2 [] := by
  unfold f_R_wrong_b2 at h
  refine k_iload_n C dX5_wrong_2 3 rfl rfl ?_
  refine k_iload_n C dX5_wrong_3 2 rfl rfl ?_
  refine k_icmp_ge C (tgt := 93) dX5_wrong_4 (by decide) (fun c_4 => ?_) (fun c_4 => ?_)
  · have h := ifT c_4 h
    refine k_lv (lv' := [(0, .ref a_this), (2, .int v2)]) [0, 2] rfl ?_
    exact k2 _ (Option.some.inj h).symm
  · have h := ifF c_4 h
    refine k_aload_n C dX5_wrong_7 0 rfl rfl ?_
    refine k_iload_n C dX5_wrong_8 1 rfl rfl ?_
    refine k_iload_n C dX5_wrong_9 3 rfl rfl ?_
    obtain ⟨x1, hx1, h⟩ := bindE h
    refine kcallR_l C (wc := (cells_R_toldAt cI cL cZ a_this a_gravel a_kind a_own a_likely a_tape a_holding a_rowLength a_rowOf a_refusals a_old a_ahead a_cost a_may a_rest a_way c_n c_rain c_ear c_many c_seed c_taped c_from c_to c_token c_value c_imaged c_rowOf)) (r := x1) [0, 1] (fun H locs ls hP hD hS hF hz => krunV C (q0 := 0) (ci := 5) (c_R_toldAt l D cI cL cZ H.size a_this a_gravel a_kind a_own a_likely a_tape a_holding a_rowLength a_rowOf a_refusals a_old a_ahead a_cost a_may a_rest a_way v1 v3 c_n c_rain c_ear c_many c_seed c_taped c_from c_to c_token c_value c_imaged c_rowOf x1 hx1) (cwV 2 C.2.2.2.2.1 (gV wq_734 wq_735 wq_736 wq_544 wq_733) rfl rfl rfl (by decide +kernel) ⟨(Nat.le_of_ble_eq_true rfl), (Nat.le_of_ble_eq_true rfl)⟩) rfl rfl kEnv_T rfl rfl (Nat.le_of_ble_eq_true rfl) dX5_wrong_10 hP hD hz) rfl (by decide) ?_
    refine k_lstore C (lv' := [(4, .long x1), (0, .ref a_this), (1, .int v1), (2, .int v2), (3, .int v3)]) dX5_wrong_13 (by decide) rfl ?_
    refine k_iload_n C dX5_wrong_15 4 rfl rfl ?_
    refine k_aload_n C dX5_wrong_16 1 rfl rfl ?_
    refine k_get C (C0 := RX5) (T := TX5) (N := 26) (fun w h => List.mem_cons_of_mem _ (us_R w h)) 0 rfl rfl 0 (by decide) (List.mem_cons_of_mem _ wq_545) rfl rfl dX5_wrong_17 ?_
    refine k_icmp_eq C (tgt := 60) dX5_wrong_20 (by decide) (fun c_20 => ?_) (fun c_20 => ?_)
    · have h := ifT c_20 h
      refine k_lv (lv' := [(3, .int v3)]) [4] rfl ?_
      exact k0 _ (Option.some.inj h).symm
    · have h := ifF c_20 h
      refine k_lload C dX5_wrong_23 0 rfl ?_
      refine k_lconst C (v := (0 : Int64)) dX5_wrong_25 (by decide) ?_
      refine k_lcmp C dX5_wrong_26 ?_
      refine k_if_lt C (tgt := 60) dX5_wrong_27 (by decide) (fun c_27 => ?_) (fun c_27 => ?_)
      · have h := ifT c_27 h
        refine k_lv (lv' := [(3, .int v3)]) [4] rfl ?_
        exact k0 _ (Option.some.inj h).symm
      · have h := ifF c_27 h
        refine k_lload C dX5_wrong_30 0 rfl ?_
        refine k_aload_n C dX5_wrong_32 1 rfl rfl ?_
        refine k_get C (C0 := RX5) (T := TX5) (N := 26) (fun w h => List.mem_cons_of_mem _ (us_R w h)) 0 rfl rfl 0 (by decide) (List.mem_cons_of_mem _ wq_545) rfl rfl dX5_wrong_33 ?_
        refine k_aload_n C dX5_wrong_36 1 rfl rfl ?_
        refine k_get C (C0 := RX5) (T := TX5) (N := 26) (fun w h => List.mem_cons_of_mem _ (us_R w h)) 0 rfl rfl 0 (by decide) (List.mem_cons_of_mem _ wq_545) rfl rfl dX5_wrong_37 ?_
        refine k_imul C dX5_wrong_40 ?_
        refine k_i2l C dX5_wrong_41 ?_
        refine k_lcmp C dX5_wrong_42 ?_
        refine k_if_ge C (tgt := 60) dX5_wrong_43 (by decide) (fun c_43 => ?_) (fun c_43 => ?_)
        · have h := ifT c_43 h
          refine k_lv (lv' := [(3, .int v3)]) [4] rfl ?_
          exact k0 _ (Option.some.inj h).symm
        · have h := ifF c_43 h
          refine k_lload C dX5_wrong_46 0 rfl ?_
          refine k_aload_n C dX5_wrong_48 1 rfl rfl ?_
          refine k_get C (C0 := RX5) (T := TX5) (N := 26) (fun w h => List.mem_cons_of_mem _ (us_R w h)) 0 rfl rfl 0 (by decide) (List.mem_cons_of_mem _ wq_545) rfl rfl dX5_wrong_49 ?_
          refine k_i2l C dX5_wrong_52 ?_
          obtain ⟨x2, hx2, h⟩ := bindE h
          refine k_ldiv C dX5_wrong_53 hx2 ?_
          refine k_iload_n C dX5_wrong_54 4 rfl rfl ?_
          refine k_i2l C dX5_wrong_55 ?_
          refine k_lcmp C dX5_wrong_56 ?_
          refine k_if_eq C (tgt := 62) dX5_wrong_57 (by decide) (fun c_57 => ?_) (fun c_57 => ?_)
          · have h := ifT c_57 h
            refine k_iload_n C dX5_wrong_62 4 rfl rfl ?_
            refine k_if_le C (tgt := 87) dX5_wrong_63 (by decide) (fun c_63 => ?_) (fun c_63 => ?_)
            · have h := ifT c_63 h
              refine k_iinc C (v := (v3 + (1 : Int32))) (lv' := [(3, .int (v3 + (1 : Int32))), (4, .long x1), (0, .ref a_this), (1, .int v1), (2, .int v2)]) dX5_wrong_87 4 rfl rfl (by decide) rfl ?_
              refine k_goto C (tgt := 2) dX5_wrong_90 (by decide) ?_
              refine k_lv (lv' := [(0, .ref a_this), (1, .int v1), (2, .int v2), (3, .int (v3 + (1 : Int32)))]) [2, 3, 4, 0] rfl ?_
              exact kc _ (Option.some.inj h).symm
            · have h := ifF c_63 h
              refine k_aload_n C dX5_wrong_66 1 rfl rfl ?_
              refine k_aload_n C dX5_wrong_67 1 rfl rfl ?_
              refine k_iload_n C dX5_wrong_68 2 rfl rfl ?_
              refine k_iload_n C dX5_wrong_69 4 rfl rfl ?_
              refine k_iconst C (v := (1 : Int32)) dX5_wrong_70 (by decide) ?_
              refine k_isub C dX5_wrong_71 ?_
              obtain ⟨x3, hx3, h⟩ := bindE h
              refine kcallR_l C (wc := (cells_R_toldAt cI cL cZ a_this a_gravel a_kind a_own a_likely a_tape a_holding a_rowLength a_rowOf a_refusals a_old a_ahead a_cost a_may a_rest a_way c_n c_rain c_ear c_many c_seed c_taped c_from c_to c_token c_value c_imaged c_rowOf)) (r := x3) [0, 1] (fun H locs ls hP hD hS hF hz => krunV C (q0 := 0) (ci := 5) (c_R_toldAt l D cI cL cZ H.size a_this a_gravel a_kind a_own a_likely a_tape a_holding a_rowLength a_rowOf a_refusals a_old a_ahead a_cost a_may a_rest a_way v1 (v3 - (1 : Int32)) c_n c_rain c_ear c_many c_seed c_taped c_from c_to c_token c_value c_imaged c_rowOf x3 hx3) (cwV 2 C.2.2.2.2.1 (gV wq_734 wq_735 wq_736 wq_544 wq_733) rfl rfl rfl (by decide +kernel) ⟨(Nat.le_of_ble_eq_true rfl), (Nat.le_of_ble_eq_true rfl)⟩) rfl rfl kEnv_T rfl rfl (Nat.le_of_ble_eq_true rfl) dX5_wrong_72 hP hD hz) rfl (by decide) ?_
              refine k_l2i C dX5_wrong_75 ?_
              refine k_lload C dX5_wrong_76 0 rfl ?_
              refine k_l2i C dX5_wrong_78 ?_
              obtain ⟨x4, hx4, h⟩ := bindE h
              refine kcallR_i C (wc := (cells_R_isNext cI cL cZ a_this a_gravel a_kind a_own a_likely a_tape a_holding a_rowLength a_rowOf a_refusals a_old a_ahead a_cost a_may a_rest a_way c_n c_rain c_ear c_many c_seed c_taped c_from c_to c_token c_value c_imaged)) (r := x4) [0] (fun H locs ls hP hD hS hF hz => krunV C (q0 := 0) (ci := 5) (c_R_isNext l D cI cL cZ H.size a_this a_gravel a_kind a_own a_likely a_tape a_holding a_rowLength a_rowOf a_refusals a_old a_ahead a_cost a_may a_rest a_way (Int64.toInt32 x3) (Int64.toInt32 x1) c_n c_rain c_ear c_many c_seed c_taped c_from c_to c_token c_value c_imaged x4 hx4) (cwV 2 C.2.2.2.2.1 (gV wq_656 wq_657 wq_658 wq_544 wq_655) rfl rfl rfl (by decide +kernel) ⟨(Nat.le_of_ble_eq_true rfl), (Nat.le_of_ble_eq_true rfl)⟩) rfl rfl kEnv_T rfl rfl (Nat.le_of_ble_eq_true rfl) dX5_wrong_79 hP hD hz) rfl (by decide) ?_
              refine k_if_ne C (tgt := 87) dX5_wrong_82 (by decide) (fun c_82 => ?_) (fun c_82 => ?_)
              · have h := ifF c_82 h
                refine k_iinc C (v := (v3 + (1 : Int32))) (lv' := [(3, .int (v3 + (1 : Int32))), (4, .long x1), (0, .ref a_this), (1, .int v1), (2, .int v2)]) dX5_wrong_87 4 rfl rfl (by decide) rfl ?_
                refine k_goto C (tgt := 2) dX5_wrong_90 (by decide) ?_
                refine k_lv (lv' := [(0, .ref a_this), (1, .int v1), (2, .int v2), (3, .int (v3 + (1 : Int32)))]) [2, 3, 4, 0] rfl ?_
                exact kc _ (Option.some.inj h).symm
              · have h := ifT c_82 h
                refine k_lv (lv' := [(3, .int v3)]) [4] rfl ?_
                exact k1 _ (Option.some.inj h).symm
          · have h := ifF c_57 h
            refine k_lv (lv' := [(3, .int v3)]) [4] rfl ?_
            exact k0 _ (Option.some.inj h).symm
set_option maxRecDepth 100000 in
set_option maxHeartbeats 4000000 in
theorem s_R_wrong_l2 (C : kC p l e rm_R_wrong s m args below meth c D (tyG cI cL cZ) A 6 cX5_wrong yX5_wrong.cls (Cond.code yX5_wrong cX5_wrong 6 (some .int) :: WS) (some .int)) {a_this : Nat} {a_gravel : Nat} {a_kind : Nat} {a_own : Nat} {a_likely : Nat} {a_tape : Nat} {a_holding : Nat} {a_rowLength : Nat} {a_rowOf : Nat} {a_refusals : Nat} {a_old : Nat} {a_ahead : Nat} {a_cost : Nat} {a_may : Nat} {a_rest : Nat} {a_way : Nat} {v1 : Int32} {v2 : Int32} {v3 : Int32} {c_n : Int32} {c_rain : Int32} {c_ear : Int32} {c_many : Int32} {c_seed : Int32} {c_taped : Int32} {c_from : Int32} {c_to : Int32} {c_token : Int32} {c_value : Int32} {c_imaged : Int32} {c_rowOf : (Nat → Int64)} {x : (Int32 ⊕ (Int32 ⊕ Unit))} (h : f_R_wrong_l2 v1 v2 c_n c_rowOf v3 = some x)
    (k0 : ∀ r, x = (.inl r) → kW p l e rm_R_wrong s m args below meth c D A 6 (cells_R_wrong cI cL cZ a_this a_gravel a_kind a_own a_likely a_tape a_holding a_rowLength a_rowOf a_refusals a_old a_ahead a_cost a_may a_rest a_way c_n c_rain c_ear c_many c_seed c_taped c_from c_to c_token c_value c_imaged c_rowOf) [(3, .int r)] Q 60 [])
    (k1 : ∀ r, x = (.inr (.inl r)) → kW p l e rm_R_wrong s m args below meth c D A 6 (cells_R_wrong cI cL cZ a_this a_gravel a_kind a_own a_likely a_tape a_holding a_rowLength a_rowOf a_refusals a_old a_ahead a_cost a_may a_rest a_way c_n c_rain c_ear c_many c_seed c_taped c_from c_to c_token c_value c_imaged c_rowOf) [(3, .int r)] Q 85 [])
    (k2 : ∀ r, x = (.inr (.inr r)) → kW p l e rm_R_wrong s m args below meth c D A 6 (cells_R_wrong cI cL cZ a_this a_gravel a_kind a_own a_likely a_tape a_holding a_rowLength a_rowOf a_refusals a_old a_ahead a_cost a_may a_rest a_way c_n c_rain c_ear c_many c_seed c_taped c_from c_to c_token c_value c_imaged c_rowOf) [(0, .ref a_this), (2, .int v2)] Q 93 []) :
    kW p l e rm_R_wrong s m args below meth c D A 6 (cells_R_wrong cI cL cZ a_this a_gravel a_kind a_own a_likely a_tape a_holding a_rowLength a_rowOf a_refusals a_old a_ahead a_cost a_may a_rest a_way c_n c_rain c_ear c_many c_seed c_taped c_from c_to c_token c_value c_imaged c_rowOf) [(0, .ref a_this), (1, .int v1), (2, .int v2), (3, .int v3)] Q 2 [] := by
  unfold f_R_wrong_l2 at h
  exact iter_W (T := fun sg => kW p l e rm_R_wrong s m args below meth c D A 6 (cells_R_wrong cI cL cZ a_this a_gravel a_kind a_own a_likely a_tape a_holding a_rowLength a_rowOf a_refusals a_old a_ahead a_cost a_may a_rest a_way c_n c_rain c_ear c_many c_seed c_taped c_from c_to c_token c_value c_imaged c_rowOf) [(0, .ref a_this), (1, .int v1), (2, .int v2), (3, .int sg)] Q 2 []) (fun sg y hy hc _ hr => s_R_wrong_b2 C hy (fun s' e => hc s' e) (fun r e => k0 r (hr _ e).symm) (fun r e => k1 r (hr _ e).symm) (fun r e => k2 r (hr _ e).symm)) FUEL _ h
set_option maxRecDepth 100000 in
set_option maxHeartbeats 4000000 in
theorem s_R_wrong (C : kC p l e rm_R_wrong s m args below meth c D (tyG cI cL cZ) A 6 cX5_wrong yX5_wrong.cls (Cond.code yX5_wrong cX5_wrong 6 (some .int) :: WS) (some .int)) {a_this : Nat} {a_gravel : Nat} {a_kind : Nat} {a_own : Nat} {a_likely : Nat} {a_tape : Nat} {a_holding : Nat} {a_rowLength : Nat} {a_rowOf : Nat} {a_refusals : Nat} {a_old : Nat} {a_ahead : Nat} {a_cost : Nat} {a_may : Nat} {a_rest : Nat} {a_way : Nat} {v1 : Int32} {v2 : Int32} {c_n : Int32} {c_rain : Int32} {c_ear : Int32} {c_many : Int32} {c_seed : Int32} {c_taped : Int32} {c_from : Int32} {c_to : Int32} {c_token : Int32} {c_value : Int32} {c_imaged : Int32} {c_rowOf : (Nat → Int64)} {x : Int32} (h : f_R_wrong v1 v2 c_n c_rowOf = some x) :
    kW p l e rm_R_wrong s m args below meth c D A 6 (cells_R_wrong cI cL cZ a_this a_gravel a_kind a_own a_likely a_tape a_holding a_rowLength a_rowOf a_refusals a_old a_ahead a_cost a_may a_rest a_way c_n c_rain c_ear c_many c_seed c_taped c_from c_to c_token c_value c_imaged c_rowOf) [(0, .ref a_this), (1, .int v1), (2, .int v2)] (MQ below (kQi D A (cells_R_wrong cI cL cZ a_this a_gravel a_kind a_own a_likely a_tape a_holding a_rowLength a_rowOf a_refusals a_old a_ahead a_cost a_may a_rest a_way c_n c_rain c_ear c_many c_seed c_taped c_from c_to c_token c_value c_imaged c_rowOf) x) args s 0 0 A) 0 [] := by
  unfold f_R_wrong at h
  refine k_iconst C (v := (0 : Int32)) dX5_wrong_0 (by decide) ?_
  refine k_istore_n C (lv' := [(3, .int (0 : Int32)), (0, .ref a_this), (1, .int v1), (2, .int v2)]) dX5_wrong_1 rfl (by decide) rfl ?_
  obtain ⟨x5, hx5, h⟩ := bindE h
  refine k_lv (lv' := [(0, .ref a_this), (1, .int v1), (2, .int v2), (3, .int (0 : Int32))]) [1, 2, 3, 0] rfl ?_
  refine s_R_wrong_l2 C hx5 ?_ ?_ ?_
  · intro x6 ex6
    subst ex6
    have h := sumL h
    refine k_iload_n C dX5_wrong_60 0 rfl rfl ?_
    obtain rfl := Option.some.inj h
    exact kret_i C rfl dX5_wrong_61
  · intro x8 ex8
    subst ex8
    have h := sumR h
    have h := sumL h
    refine k_iload_n C dX5_wrong_85 0 rfl rfl ?_
    obtain rfl := Option.some.inj h
    exact kret_i C rfl dX5_wrong_86
  · intro x9 ex9
    subst ex9
    have h := sumR h
    have h := sumR h
    refine k_iload_n C dX5_wrong_93 1 rfl rfl ?_
    refine k_aload_n C dX5_wrong_94 0 rfl rfl ?_
    refine k_get C (C0 := RX5) (T := TX5) (N := 26) (fun w h => List.mem_cons_of_mem _ (us_R w h)) 0 rfl rfl 0 (by decide) (List.mem_cons_of_mem _ wq_545) rfl rfl dX5_wrong_95 ?_
    refine k_icmp_ge C (tgt := 105) dX5_wrong_98 (by decide) (fun c_98 => ?_) (fun c_98 => ?_)
    · have h := ifT c_98 h
      refine k_iconst C (v := (-1 : Int32)) dX5_wrong_105 (by decide) ?_
      obtain rfl := Option.some.inj h
      exact kret_i C rfl dX5_wrong_106
    · have h := ifF c_98 h
      refine k_iload_n C dX5_wrong_101 1 rfl rfl ?_
      refine k_goto C (tgt := 106) dX5_wrong_102 (by decide) ?_
      obtain rfl := Option.some.inj h
      exact kret_i C rfl dX5_wrong_106
theorem c_R_wrong (l : Launch) (D : va_G) (cI : ClassId) (cL : ClassId) (cZ : ClassId) (sz : Nat) (a_this : Nat) (a_gravel : Nat) (a_kind : Nat) (a_own : Nat) (a_likely : Nat) (a_tape : Nat) (a_holding : Nat) (a_rowLength : Nat) (a_rowOf : Nat) (a_refusals : Nat) (a_old : Nat) (a_ahead : Nat) (a_cost : Nat) (a_may : Nat) (a_rest : Nat) (a_way : Nat) (v1 : Int32) (v2 : Int32) (c_n : Int32) (c_rain : Int32) (c_ear : Int32) (c_many : Int32) (c_seed : Int32) (c_taped : Int32) (c_from : Int32) (c_to : Int32) (c_token : Int32) (c_value : Int32) (c_imaged : Int32) (c_rowOf : (Nat → Int64)) (x : Int32) (h : f_R_wrong v1 v2 c_n c_rowOf = some x) :
    Met l yX5_wrong (Cond.code yX5_wrong cX5_wrong 6 (some .int) :: WS) rm_R_wrong (kP D (tyG cI cL cZ) kTrue [.ref a_this, .int v1, .int v2] sz (cells_R_wrong cI cL cZ a_this a_gravel a_kind a_own a_likely a_tape a_holding a_rowLength a_rowOf a_refusals a_old a_ahead a_cost a_may a_rest a_way c_n c_rain c_ear c_many c_seed c_taped c_from c_to c_token c_value c_imaged c_rowOf)) (kQi D (va_A (cells_R_wrong cI cL cZ a_this a_gravel a_kind a_own a_likely a_tape a_holding a_rowLength a_rowOf a_refusals a_old a_ahead a_cost a_may a_rest a_way c_n c_rain c_ear c_many c_seed c_taped c_from c_to c_token c_value c_imaged c_rowOf) sz) (cells_R_wrong cI cL cZ a_this a_gravel a_kind a_own a_likely a_tape a_holding a_rowLength a_rowOf a_refusals a_old a_ahead a_cost a_may a_rest a_way c_n c_rain c_ear c_many c_seed c_taped c_from c_to c_token c_value c_imaged c_rowOf) x) 0 0 (va_A (cells_R_wrong cI cL cZ a_this a_gravel a_kind a_own a_likely a_tape a_holding a_rowLength a_rowOf a_refusals a_old a_ahead a_cost a_may a_rest a_way c_n c_rain c_ear c_many c_seed c_taped c_from c_to c_token c_value c_imaged c_rowOf) sz) :=
  kmet (by decide) (Nat.le_of_ble_eq_true rfl) rfl (fun p e s m below meth c C hE => s_R_wrong C h)
abbrev cells_R_judge (cI : ClassId) (cL : ClassId) (cZ : ClassId) (a_this : Nat) (a_gravel : Nat) (a_kind : Nat) (a_own : Nat) (a_likely : Nat) (a_tape : Nat) (a_holding : Nat) (a_rowLength : Nat) (a_rowOf : Nat) (a_refusals : Nat) (a_old : Nat) (a_ahead : Nat) (a_cost : Nat) (a_may : Nat) (a_rest : Nat) (a_way : Nat) (c_n : Int32) (c_rain : Int32) (c_ear : Int32) (c_many : Int32) (c_seed : Int32) (c_taped : Int32) (c_from : Int32) (c_to : Int32) (c_token : Int32) (c_value : Int32) (c_imaged : Int32) (c_holding : (Nat → Int32)) (c_rowLength : (Nat → Int32)) (c_rowOf : (Nat → Int64)) (c_refusals : (Nat → Int32)) : va_W := [(a_this, .inr (5, [.int c_n, .ref a_gravel, .int c_rain, .int c_ear, .int c_many, .ref a_kind, .ref a_own, .ref a_likely, .int c_seed, .int c_taped, .ref a_tape, .int c_from, .int c_to, .int c_token, .int c_value, .ref a_holding, .ref a_rowLength, .ref a_rowOf, .ref a_refusals, .int c_imaged, .ref a_old, .ref a_ahead, .ref a_cost, .ref a_may, .ref a_rest, .ref a_way])), (a_holding, .inl (cI, 8, .inl c_holding)), (a_rowLength, .inl (cI, 8, .inl c_rowLength)), (a_rowOf, .inl (cL, 320, .inr (.inl c_rowOf))), (a_refusals, .inl (cI, 7, .inl c_refusals))]
abbrev rm_R_judge : Room := { frames := 3, cells := 0, slots := 0, locals := 67 }
set_option maxRecDepth 100000 in
set_option maxHeartbeats 4000000 in
theorem s_R_judge_j17 (C : kC p l e rm_R_judge s m args below meth c D (tyG cI cL cZ) A 4 cX5_judge yX5_judge.cls (Cond.code yX5_judge cX5_judge 4 (some .int) :: WS) (some .int)) {a_this : Nat} {a_gravel : Nat} {a_kind : Nat} {a_own : Nat} {a_likely : Nat} {a_tape : Nat} {a_holding : Nat} {a_rowLength : Nat} {a_rowOf : Nat} {a_refusals : Nat} {a_old : Nat} {a_ahead : Nat} {a_cost : Nat} {a_may : Nat} {a_rest : Nat} {a_way : Nat} {c_n : Int32} {c_rain : Int32} {c_ear : Int32} {c_many : Int32} {c_seed : Int32} {c_taped : Int32} {c_from : Int32} {c_to : Int32} {c_token : Int32} {c_value : Int32} {c_imaged : Int32} {c_holding : (Nat → Int32)} {c_rowLength : (Nat → Int32)} {c_rowOf : (Nat → Int64)} {c_refusals : (Nat → Int32)} {x : (Int32 × (Nat → Int32))} (h : f_R_judge_j17 c_refusals = some x) :
    kW p l e rm_R_judge s m args below meth c D A 4 (cells_R_judge cI cL cZ a_this a_gravel a_kind a_own a_likely a_tape a_holding a_rowLength a_rowOf a_refusals a_old a_ahead a_cost a_may a_rest a_way c_n c_rain c_ear c_many c_seed c_taped c_from c_to c_token c_value c_imaged c_holding c_rowLength c_rowOf c_refusals) [(0, .ref a_this)] (MQ below (kQi D A (cells_R_judge cI cL cZ a_this a_gravel a_kind a_own a_likely a_tape a_holding a_rowLength a_rowOf a_refusals a_old a_ahead a_cost a_may a_rest a_way c_n c_rain c_ear c_many c_seed c_taped c_from c_to c_token c_value c_imaged c_holding c_rowLength c_rowOf x.2) x.1) args s 0 0 A) 17 [] := by
  unfold f_R_judge_j17 at h
  refine k_aload_n C dX5_judge_17 0 rfl rfl ?_
  refine k_bipush C (v := (-2 : Int32)) dX5_judge_18 (by decide) ?_
  obtain ⟨x2, hx2, h⟩ := bindE h
  refine kcallU_i C (wc := (cells_R_no cI cL cZ a_this a_gravel a_kind a_own a_likely a_tape a_holding a_rowLength a_rowOf a_refusals a_old a_ahead a_cost a_may a_rest a_way c_n c_rain c_ear c_many c_seed c_taped c_from c_to c_token c_value c_imaged c_refusals)) (w1 := (cells_R_no cI cL cZ a_this a_gravel a_kind a_own a_likely a_tape a_holding a_rowLength a_rowOf a_refusals a_old a_ahead a_cost a_may a_rest a_way c_n c_rain c_ear c_many c_seed c_taped c_from c_to c_token c_value c_imaged x2.2)) (ws' := (cells_R_judge cI cL cZ a_this a_gravel a_kind a_own a_likely a_tape a_holding a_rowLength a_rowOf a_refusals a_old a_ahead a_cost a_may a_rest a_way c_n c_rain c_ear c_many c_seed c_taped c_from c_to c_token c_value c_imaged c_holding c_rowLength c_rowOf x2.2)) (r := x2.1) [0, 4] (fun H locs ls hP hD hS hF hz => krunV C (q0 := 0) (ci := 5) (c_R_no l D cI cL cZ H.size a_this a_gravel a_kind a_own a_likely a_tape a_holding a_rowLength a_rowOf a_refusals a_old a_ahead a_cost a_may a_rest a_way (-2 : Int32) c_n c_rain c_ear c_many c_seed c_taped c_from c_to c_token c_value c_imaged c_refusals x2 hx2) (cwV 1 C.2.2.2.2.1 (gV wq_551 wq_552 wq_553 wq_544 wq_550) rfl rfl rfl (by decide +kernel) ⟨(Nat.le_of_ble_eq_true rfl), (Nat.le_of_ble_eq_true rfl)⟩) rfl rfl kEnv_T rfl rfl (Nat.le_of_ble_eq_true rfl) dX5_judge_20 hP hD hz) rfl (by decide) rfl rfl ?_
  obtain rfl := Option.some.inj h
  exact kret_i C rfl dX5_judge_23
set_option maxRecDepth 100000 in
set_option maxHeartbeats 4000000 in
theorem s_R_judge (C : kC p l e rm_R_judge s m args below meth c D (tyG cI cL cZ) A 4 cX5_judge yX5_judge.cls (Cond.code yX5_judge cX5_judge 4 (some .int) :: WS) (some .int)) {a_this : Nat} {a_gravel : Nat} {a_kind : Nat} {a_own : Nat} {a_likely : Nat} {a_tape : Nat} {a_holding : Nat} {a_rowLength : Nat} {a_rowOf : Nat} {a_refusals : Nat} {a_old : Nat} {a_ahead : Nat} {a_cost : Nat} {a_may : Nat} {a_rest : Nat} {a_way : Nat} {v1 : Int32} {v2 : Int32} {c_n : Int32} {c_rain : Int32} {c_ear : Int32} {c_many : Int32} {c_seed : Int32} {c_taped : Int32} {c_from : Int32} {c_to : Int32} {c_token : Int32} {c_value : Int32} {c_imaged : Int32} {c_holding : (Nat → Int32)} {c_rowLength : (Nat → Int32)} {c_rowOf : (Nat → Int64)} {c_refusals : (Nat → Int32)} {x : (Int32 × (Nat → Int32))} (h : f_R_judge v1 v2 c_n c_holding c_rowLength c_rowOf c_refusals = some x) :
    kW p l e rm_R_judge s m args below meth c D A 4 (cells_R_judge cI cL cZ a_this a_gravel a_kind a_own a_likely a_tape a_holding a_rowLength a_rowOf a_refusals a_old a_ahead a_cost a_may a_rest a_way c_n c_rain c_ear c_many c_seed c_taped c_from c_to c_token c_value c_imaged c_holding c_rowLength c_rowOf c_refusals) [(0, .ref a_this), (1, .int v1), (2, .int v2)] (MQ below (kQi D A (cells_R_judge cI cL cZ a_this a_gravel a_kind a_own a_likely a_tape a_holding a_rowLength a_rowOf a_refusals a_old a_ahead a_cost a_may a_rest a_way c_n c_rain c_ear c_many c_seed c_taped c_from c_to c_token c_value c_imaged c_holding c_rowLength c_rowOf x.2) x.1) args s 0 0 A) 0 [] := by
  unfold f_R_judge at h
  refine k_iload_n C dX5_judge_0 1 rfl rfl ?_
  obtain ⟨x1, hx1, h⟩ := bindE h
  refine kcallE_i C (r := x1) (fun H locs ls hP hD hS hF hz => krunS C (c_R_isShelf l D cI cL cZ H.size v1 x1 hx1) (va_cwS 1 C.2.2.2.2.1 (gS wq_548 wq_549 wq_544 wq_547) rfl rfl rfl (by decide +kernel) ⟨(Nat.le_of_ble_eq_true rfl), (Nat.le_of_ble_eq_true rfl)⟩) kEnv_T rfl rfl (Nat.le_of_ble_eq_true rfl) dX5_judge_1 hP hD hz) ?_
  refine k_if_eq C (tgt := 17) dX5_judge_4 (by decide) (fun c_4 => ?_) (fun c_4 => ?_)
  · have h := ifT c_4 h
    refine k_lv (lv' := [(0, .ref a_this)]) [0] rfl ?_
    exact s_R_judge_j17 C h
  · have h := ifF c_4 h
    refine k_iload_n C dX5_judge_7 2 rfl rfl ?_
    refine k_iconst C (v := (0 : Int32)) dX5_judge_8 (by decide) ?_
    refine k_bipush C (v := (40 : Int32)) dX5_judge_9 (by decide) ?_
    obtain ⟨x3, hx3, h⟩ := bindE h
    refine kcallE_i C (r := x3) (fun H locs ls hP hD hS hF hz => krunS C (c_R_within l D cI cL cZ H.size v2 (0 : Int32) (40 : Int32) x3 hx3) (va_cwS 3 C.2.2.2.2.1 (gS wq_542 wq_543 wq_544 wq_541) rfl rfl rfl (by decide +kernel) ⟨(Nat.le_of_ble_eq_true rfl), (Nat.le_of_ble_eq_true rfl)⟩) kEnv_T rfl rfl (Nat.le_of_ble_eq_true rfl) dX5_judge_11 hP hD hz) ?_
    refine k_if_ne C (tgt := 24) dX5_judge_14 (by decide) (fun c_14 => ?_) (fun c_14 => ?_)
    · have h := ifF c_14 h
      refine k_aload_n C dX5_judge_24 0 rfl rfl ?_
      refine k_iload_n C dX5_judge_25 1 rfl rfl ?_
      refine k_iload_n C dX5_judge_26 2 rfl rfl ?_
      obtain ⟨x4, hx4, h⟩ := bindE h
      refine kcallR_i C (wc := (cells_R_noWay cI cL cZ a_this a_gravel a_kind a_own a_likely a_tape a_holding a_rowLength a_rowOf a_refusals a_old a_ahead a_cost a_may a_rest a_way c_n c_rain c_ear c_many c_seed c_taped c_from c_to c_token c_value c_imaged c_holding c_rowLength)) (r := x4) [0, 1, 2] (fun H locs ls hP hD hS hF hz => krunV C (q0 := 0) (ci := 5) (c_R_noWay l D cI cL cZ H.size a_this a_gravel a_kind a_own a_likely a_tape a_holding a_rowLength a_rowOf a_refusals a_old a_ahead a_cost a_may a_rest a_way v1 v2 c_n c_rain c_ear c_many c_seed c_taped c_from c_to c_token c_value c_imaged c_holding c_rowLength x4 hx4) (cwV 2 C.2.2.2.2.1 (gV wq_766 wq_767 wq_768 wq_544 wq_765) rfl rfl rfl (by decide +kernel) ⟨(Nat.le_of_ble_eq_true rfl), (Nat.le_of_ble_eq_true rfl)⟩) rfl rfl kEnv_T rfl rfl (Nat.le_of_ble_eq_true rfl) dX5_judge_27 hP hD hz) rfl (by decide) ?_
      refine k_istore_n C (lv' := [(3, .int x4), (0, .ref a_this), (1, .int v1), (2, .int v2)]) dX5_judge_30 rfl (by decide) rfl ?_
      refine k_iload_n C dX5_judge_31 0 rfl rfl ?_
      refine k_if_ge C (tgt := 43) dX5_judge_32 (by decide) (fun c_32 => ?_) (fun c_32 => ?_)
      · have h := ifT c_32 h
        refine k_aload_n C dX5_judge_43 1 rfl rfl ?_
        refine k_iload_n C dX5_judge_44 2 rfl rfl ?_
        refine k_iload_n C dX5_judge_45 3 rfl rfl ?_
        obtain ⟨x5, hx5, h⟩ := bindE h
        refine kcallR_i C (wc := (cells_R_wrong cI cL cZ a_this a_gravel a_kind a_own a_likely a_tape a_holding a_rowLength a_rowOf a_refusals a_old a_ahead a_cost a_may a_rest a_way c_n c_rain c_ear c_many c_seed c_taped c_from c_to c_token c_value c_imaged c_rowOf)) (r := x5) [0, 3] (fun H locs ls hP hD hS hF hz => krunV C (q0 := 0) (ci := 5) (c_R_wrong l D cI cL cZ H.size a_this a_gravel a_kind a_own a_likely a_tape a_holding a_rowLength a_rowOf a_refusals a_old a_ahead a_cost a_may a_rest a_way v1 v2 c_n c_rain c_ear c_many c_seed c_taped c_from c_to c_token c_value c_imaged c_rowOf x5 hx5) (cwV 2 C.2.2.2.2.1 (gV wq_770 wq_771 wq_772 wq_544 wq_769) rfl rfl rfl (by decide +kernel) ⟨(Nat.le_of_ble_eq_true rfl), (Nat.le_of_ble_eq_true rfl)⟩) rfl rfl kEnv_T rfl rfl (Nat.le_of_ble_eq_true rfl) dX5_judge_46 hP hD hz) rfl (by decide) ?_
        obtain rfl := Option.some.inj h
        exact kret_i C rfl dX5_judge_49
      · have h := ifF c_32 h
        refine k_aload_n C dX5_judge_35 1 rfl rfl ?_
        refine k_iload_n C dX5_judge_36 0 rfl rfl ?_
        obtain ⟨x6, hx6, h⟩ := bindE h
        refine kcallU_i C (wc := (cells_R_no cI cL cZ a_this a_gravel a_kind a_own a_likely a_tape a_holding a_rowLength a_rowOf a_refusals a_old a_ahead a_cost a_may a_rest a_way c_n c_rain c_ear c_many c_seed c_taped c_from c_to c_token c_value c_imaged c_refusals)) (w1 := (cells_R_no cI cL cZ a_this a_gravel a_kind a_own a_likely a_tape a_holding a_rowLength a_rowOf a_refusals a_old a_ahead a_cost a_may a_rest a_way c_n c_rain c_ear c_many c_seed c_taped c_from c_to c_token c_value c_imaged x6.2)) (ws' := (cells_R_judge cI cL cZ a_this a_gravel a_kind a_own a_likely a_tape a_holding a_rowLength a_rowOf a_refusals a_old a_ahead a_cost a_may a_rest a_way c_n c_rain c_ear c_many c_seed c_taped c_from c_to c_token c_value c_imaged c_holding c_rowLength c_rowOf x6.2)) (r := x6.1) [0, 4] (fun H locs ls hP hD hS hF hz => krunV C (q0 := 0) (ci := 5) (c_R_no l D cI cL cZ H.size a_this a_gravel a_kind a_own a_likely a_tape a_holding a_rowLength a_rowOf a_refusals a_old a_ahead a_cost a_may a_rest a_way x4 c_n c_rain c_ear c_many c_seed c_taped c_from c_to c_token c_value c_imaged c_refusals x6 hx6) (cwV 1 C.2.2.2.2.1 (gV wq_551 wq_552 wq_553 wq_544 wq_550) rfl rfl rfl (by decide +kernel) ⟨(Nat.le_of_ble_eq_true rfl), (Nat.le_of_ble_eq_true rfl)⟩) rfl rfl kEnv_T rfl rfl (Nat.le_of_ble_eq_true rfl) dX5_judge_37 hP hD hz) rfl (by decide) rfl rfl ?_
        refine k_goto C (tgt := 49) dX5_judge_40 (by decide) ?_
        obtain rfl := Option.some.inj h
        exact kret_i C rfl dX5_judge_49
    · have h := ifT c_14 h
      refine k_lv (lv' := [(0, .ref a_this)]) [0] rfl ?_
      exact s_R_judge_j17 C h
theorem c_R_judge (l : Launch) (D : va_G) (cI : ClassId) (cL : ClassId) (cZ : ClassId) (sz : Nat) (a_this : Nat) (a_gravel : Nat) (a_kind : Nat) (a_own : Nat) (a_likely : Nat) (a_tape : Nat) (a_holding : Nat) (a_rowLength : Nat) (a_rowOf : Nat) (a_refusals : Nat) (a_old : Nat) (a_ahead : Nat) (a_cost : Nat) (a_may : Nat) (a_rest : Nat) (a_way : Nat) (v1 : Int32) (v2 : Int32) (c_n : Int32) (c_rain : Int32) (c_ear : Int32) (c_many : Int32) (c_seed : Int32) (c_taped : Int32) (c_from : Int32) (c_to : Int32) (c_token : Int32) (c_value : Int32) (c_imaged : Int32) (c_holding : (Nat → Int32)) (c_rowLength : (Nat → Int32)) (c_rowOf : (Nat → Int64)) (c_refusals : (Nat → Int32)) (x : (Int32 × (Nat → Int32))) (h : f_R_judge v1 v2 c_n c_holding c_rowLength c_rowOf c_refusals = some x) :
    Met l yX5_judge (Cond.code yX5_judge cX5_judge 4 (some .int) :: WS) rm_R_judge (kP D (tyG cI cL cZ) kTrue [.ref a_this, .int v1, .int v2] sz (cells_R_judge cI cL cZ a_this a_gravel a_kind a_own a_likely a_tape a_holding a_rowLength a_rowOf a_refusals a_old a_ahead a_cost a_may a_rest a_way c_n c_rain c_ear c_many c_seed c_taped c_from c_to c_token c_value c_imaged c_holding c_rowLength c_rowOf c_refusals)) (kQi D (va_A (cells_R_judge cI cL cZ a_this a_gravel a_kind a_own a_likely a_tape a_holding a_rowLength a_rowOf a_refusals a_old a_ahead a_cost a_may a_rest a_way c_n c_rain c_ear c_many c_seed c_taped c_from c_to c_token c_value c_imaged c_holding c_rowLength c_rowOf c_refusals) sz) (cells_R_judge cI cL cZ a_this a_gravel a_kind a_own a_likely a_tape a_holding a_rowLength a_rowOf a_refusals a_old a_ahead a_cost a_may a_rest a_way c_n c_rain c_ear c_many c_seed c_taped c_from c_to c_token c_value c_imaged c_holding c_rowLength c_rowOf x.2) x.1) 0 0 (va_A (cells_R_judge cI cL cZ a_this a_gravel a_kind a_own a_likely a_tape a_holding a_rowLength a_rowOf a_refusals a_old a_ahead a_cost a_may a_rest a_way c_n c_rain c_ear c_many c_seed c_taped c_from c_to c_token c_value c_imaged c_holding c_rowLength c_rowOf c_refusals) sz) :=
  kmet (by decide) (Nat.le_of_ble_eq_true rfl) rfl (fun p e s m below meth c C hE => s_R_judge C h)
abbrev cells_R_loudOf (cI : ClassId) (cL : ClassId) (cZ : ClassId) (a_this : Nat) (a_gravel : Nat) (a_kind : Nat) (a_own : Nat) (a_likely : Nat) (a_tape : Nat) (a_holding : Nat) (a_rowLength : Nat) (a_rowOf : Nat) (a_refusals : Nat) (a_old : Nat) (a_ahead : Nat) (a_cost : Nat) (a_may : Nat) (a_rest : Nat) (a_way : Nat) (c_n : Int32) (c_rain : Int32) (c_ear : Int32) (c_many : Int32) (c_seed : Int32) (c_taped : Int32) (c_from : Int32) (c_to : Int32) (c_token : Int32) (c_value : Int32) (c_imaged : Int32) (c_gravel : (Nat → Int32)) (c_kind : (Nat → Int32)) (c_own : (Nat → Int32)) (c_rowOf : (Nat → Int64)) : va_W := [(a_this, .inr (5, [.int c_n, .ref a_gravel, .int c_rain, .int c_ear, .int c_many, .ref a_kind, .ref a_own, .ref a_likely, .int c_seed, .int c_taped, .ref a_tape, .int c_from, .int c_to, .int c_token, .int c_value, .ref a_holding, .ref a_rowLength, .ref a_rowOf, .ref a_refusals, .int c_imaged, .ref a_old, .ref a_ahead, .ref a_cost, .ref a_may, .ref a_rest, .ref a_way])), (a_gravel, .inl (cI, 36, .inl c_gravel)), (a_kind, .inl (cI, 8, .inl c_kind)), (a_own, .inl (cI, 8, .inl c_own)), (a_rowOf, .inl (cL, 320, .inr (.inl c_rowOf)))]
abbrev rm_R_loudOf : Room := { frames := 4, cells := 0, slots := 0, locals := 100 }
set_option maxRecDepth 100000 in
set_option maxHeartbeats 4000000 in
theorem s_R_loudOf_b14 (C : kC p l e rm_R_loudOf s m args below meth c D (tyG cI cL cZ) A 8 cX5_loudOf yX5_loudOf.cls (Cond.code yX5_loudOf cX5_loudOf 8 (some .int) :: WS) (some .int)) {a_this : Nat} {a_gravel : Nat} {a_kind : Nat} {a_own : Nat} {a_likely : Nat} {a_tape : Nat} {a_holding : Nat} {a_rowLength : Nat} {a_rowOf : Nat} {a_refusals : Nat} {a_old : Nat} {a_ahead : Nat} {a_cost : Nat} {a_may : Nat} {a_rest : Nat} {a_way : Nat} {v1 : Int32} {v2 : Int32} {v3 : Int32} {v4 : Int32} {v5 : Int32} {v6 : Int32} {c_n : Int32} {c_rain : Int32} {c_ear : Int32} {c_many : Int32} {c_seed : Int32} {c_taped : Int32} {c_from : Int32} {c_to : Int32} {c_token : Int32} {c_value : Int32} {c_imaged : Int32} {c_gravel : (Nat → Int32)} {c_kind : (Nat → Int32)} {c_own : (Nat → Int32)} {c_rowOf : (Nat → Int64)} {x : ((Int32 × Int32 × Int32) ⊕ (Int32 × Int32))} (h : f_R_loudOf_b14 v1 v2 c_n c_rain c_ear c_gravel c_kind c_own c_rowOf v4 v5 v6 = some x)
    (kc : ∀ s', x = .inl s' → kW p l e rm_R_loudOf s m args below meth c D A 8 (cells_R_loudOf cI cL cZ a_this a_gravel a_kind a_own a_likely a_tape a_holding a_rowLength a_rowOf a_refusals a_old a_ahead a_cost a_may a_rest a_way c_n c_rain c_ear c_many c_seed c_taped c_from c_to c_token c_value c_imaged c_gravel c_kind c_own c_rowOf) [(0, .ref a_this), (1, .int v1), (2, .int v2), (3, .int v3), (4, .int s'.1), (5, .int s'.2.1), (6, .int s'.2.2)] Q 14 [])
    (k0 : ∀ r, x = .inr r → kW p l e rm_R_loudOf s m args below meth c D A 8 (cells_R_loudOf cI cL cZ a_this a_gravel a_kind a_own a_likely a_tape a_holding a_rowLength a_rowOf a_refusals a_old a_ahead a_cost a_may a_rest a_way c_n c_rain c_ear c_many c_seed c_taped c_from c_to c_token c_value c_imaged c_gravel c_kind c_own c_rowOf) [(3, .int v3), (4, .int r.1), (5, .int r.2)] Q 60 []) :
    kW p l e rm_R_loudOf s m args below meth c D A 8 (cells_R_loudOf cI cL cZ a_this a_gravel a_kind a_own a_likely a_tape a_holding a_rowLength a_rowOf a_refusals a_old a_ahead a_cost a_may a_rest a_way c_n c_rain c_ear c_many c_seed c_taped c_from c_to c_token c_value c_imaged c_gravel c_kind c_own c_rowOf) [(0, .ref a_this), (1, .int v1), (2, .int v2), (3, .int v3), (4, .int v4), (5, .int v5), (6, .int v6)] Q 14 [] := by
  unfold f_R_loudOf_b14 at h
  refine k_iload C dX5_loudOf_14 6 rfl ?_
  refine k_if_lt C (tgt := 60) dX5_loudOf_16 (by decide) (fun c_16 => ?_) (fun c_16 => ?_)
  · have h := ifT c_16 h
    refine k_lv (lv' := [(3, .int v3), (4, .int v4), (5, .int v5)]) [3, 4, 5] rfl ?_
    exact k0 _ (Option.some.inj h).symm
  · have h := ifF c_16 h
    refine k_aload_n C dX5_loudOf_19 0 rfl rfl ?_
    refine k_iload_n C dX5_loudOf_20 2 rfl rfl ?_
    refine k_aload_n C dX5_loudOf_21 0 rfl rfl ?_
    refine k_iload_n C dX5_loudOf_22 1 rfl rfl ?_
    refine k_iload C dX5_loudOf_23 6 rfl ?_
    obtain ⟨x1, hx1, h⟩ := bindE h
    refine kcallR_l C (wc := (cells_R_toldAt cI cL cZ a_this a_gravel a_kind a_own a_likely a_tape a_holding a_rowLength a_rowOf a_refusals a_old a_ahead a_cost a_may a_rest a_way c_n c_rain c_ear c_many c_seed c_taped c_from c_to c_token c_value c_imaged c_rowOf)) (r := x1) [0, 4] (fun H locs ls hP hD hS hF hz => krunV C (q0 := 0) (ci := 5) (c_R_toldAt l D cI cL cZ H.size a_this a_gravel a_kind a_own a_likely a_tape a_holding a_rowLength a_rowOf a_refusals a_old a_ahead a_cost a_may a_rest a_way v1 v6 c_n c_rain c_ear c_many c_seed c_taped c_from c_to c_token c_value c_imaged c_rowOf x1 hx1) (cwV 2 C.2.2.2.2.1 (gV wq_734 wq_735 wq_736 wq_544 wq_733) rfl rfl rfl (by decide +kernel) ⟨(Nat.le_of_ble_eq_true rfl), (Nat.le_of_ble_eq_true rfl)⟩) rfl rfl kEnv_T rfl rfl (Nat.le_of_ble_eq_true rfl) dX5_loudOf_25 hP hD hz) rfl (by decide) ?_
    refine k_l2i C dX5_loudOf_28 ?_
    obtain ⟨x2, hx2, h⟩ := bindE h
    refine kcallR_i C (wc := (cells_R_stepOn cI cL cZ a_this a_gravel a_kind a_own a_likely a_tape a_holding a_rowLength a_rowOf a_refusals a_old a_ahead a_cost a_may a_rest a_way c_n c_rain c_ear c_many c_seed c_taped c_from c_to c_token c_value c_imaged c_gravel c_kind c_own)) (r := x2) [0, 1, 2, 3] (fun H locs ls hP hD hS hF hz => krunV C (q0 := 0) (ci := 5) (c_R_stepOn l D cI cL cZ H.size a_this a_gravel a_kind a_own a_likely a_tape a_holding a_rowLength a_rowOf a_refusals a_old a_ahead a_cost a_may a_rest a_way v2 (Int64.toInt32 x1) c_n c_rain c_ear c_many c_seed c_taped c_from c_to c_token c_value c_imaged c_gravel c_kind c_own x2 hx2) (cwV 2 C.2.2.2.2.1 (gV wq_647 wq_648 wq_649 wq_544 wq_646) rfl rfl rfl (by decide +kernel) ⟨(Nat.le_of_ble_eq_true rfl), (Nat.le_of_ble_eq_true rfl)⟩) rfl rfl kEnv_T rfl rfl (Nat.le_of_ble_eq_true rfl) dX5_loudOf_29 hP hD hz) rfl (by decide) ?_
    refine k_istore C (lv' := [(7, .int x2), (0, .ref a_this), (1, .int v1), (2, .int v2), (3, .int v3), (4, .int v4), (5, .int v5), (6, .int v6)]) dX5_loudOf_32 (by decide) rfl ?_
    refine k_iload C dX5_loudOf_34 5 rfl ?_
    refine k_iload C dX5_loudOf_36 0 rfl ?_
    refine k_iadd C dX5_loudOf_38 ?_
    refine k_istore C (lv' := [(4, .int (v4 + x2)), (7, .int x2), (0, .ref a_this), (1, .int v1), (2, .int v2), (3, .int v3), (5, .int v5), (6, .int v6)]) dX5_loudOf_39 (by decide) rfl ?_
    refine k_iload C dX5_loudOf_41 1 rfl ?_
    refine k_aload_n C dX5_loudOf_43 2 rfl rfl ?_
    refine k_get C (C0 := RX5) (T := TX5) (N := 26) (fun w h => List.mem_cons_of_mem _ (us_R w h)) 0 rfl rfl 3 (by decide) (List.mem_cons_of_mem _ wq_596) rfl rfl dX5_loudOf_44 ?_
    refine k_icmp_lt C (tgt := 54) dX5_loudOf_47 (by decide) (fun c_47 => ?_) (fun c_47 => ?_)
    · have h := ifT c_47 h
      refine k_iinc C (v := (v6 + (-1 : Int32))) (lv' := [(6, .int (v6 + (-1 : Int32))), (4, .int (v4 + x2)), (7, .int x2), (0, .ref a_this), (1, .int v1), (2, .int v2), (3, .int v3), (5, .int v5)]) dX5_loudOf_54 7 rfl rfl (by decide) rfl ?_
      refine k_goto C (tgt := 14) dX5_loudOf_57 (by decide) ?_
      refine k_lv (lv' := [(0, .ref a_this), (1, .int v1), (2, .int v2), (3, .int v3), (4, .int (v4 + x2)), (5, .int v5), (6, .int (v6 + (-1 : Int32)))]) [3, 4, 5, 6, 1, 7, 0] rfl ?_
      exact kc _ (Option.some.inj h).symm
    · have h := ifF c_47 h
      refine k_iload C dX5_loudOf_50 7 rfl ?_
      refine k_istore C (lv' := [(5, .int v6), (4, .int (v4 + x2)), (7, .int x2), (0, .ref a_this), (1, .int v1), (2, .int v2), (3, .int v3), (6, .int v6)]) dX5_loudOf_52 (by decide) rfl ?_
      refine k_iinc C (v := (v6 + (-1 : Int32))) (lv' := [(6, .int (v6 + (-1 : Int32))), (5, .int v6), (4, .int (v4 + x2)), (7, .int x2), (0, .ref a_this), (1, .int v1), (2, .int v2), (3, .int v3)]) dX5_loudOf_54 7 rfl rfl (by decide) rfl ?_
      refine k_goto C (tgt := 14) dX5_loudOf_57 (by decide) ?_
      refine k_lv (lv' := [(0, .ref a_this), (1, .int v1), (2, .int v2), (3, .int v3), (4, .int (v4 + x2)), (5, .int v6), (6, .int (v6 + (-1 : Int32)))]) [4, 5, 6, 7, 2, 1, 0] rfl ?_
      exact kc _ (Option.some.inj h).symm
set_option maxRecDepth 100000 in
set_option maxHeartbeats 4000000 in
theorem s_R_loudOf_l14 (C : kC p l e rm_R_loudOf s m args below meth c D (tyG cI cL cZ) A 8 cX5_loudOf yX5_loudOf.cls (Cond.code yX5_loudOf cX5_loudOf 8 (some .int) :: WS) (some .int)) {a_this : Nat} {a_gravel : Nat} {a_kind : Nat} {a_own : Nat} {a_likely : Nat} {a_tape : Nat} {a_holding : Nat} {a_rowLength : Nat} {a_rowOf : Nat} {a_refusals : Nat} {a_old : Nat} {a_ahead : Nat} {a_cost : Nat} {a_may : Nat} {a_rest : Nat} {a_way : Nat} {v1 : Int32} {v2 : Int32} {v3 : Int32} {v4 : Int32} {v5 : Int32} {v6 : Int32} {c_n : Int32} {c_rain : Int32} {c_ear : Int32} {c_many : Int32} {c_seed : Int32} {c_taped : Int32} {c_from : Int32} {c_to : Int32} {c_token : Int32} {c_value : Int32} {c_imaged : Int32} {c_gravel : (Nat → Int32)} {c_kind : (Nat → Int32)} {c_own : (Nat → Int32)} {c_rowOf : (Nat → Int64)} {x : (Int32 × Int32)} (h : f_R_loudOf_l14 v1 v2 c_n c_rain c_ear c_gravel c_kind c_own c_rowOf v4 v5 v6 = some x)
    (k0 : kW p l e rm_R_loudOf s m args below meth c D A 8 (cells_R_loudOf cI cL cZ a_this a_gravel a_kind a_own a_likely a_tape a_holding a_rowLength a_rowOf a_refusals a_old a_ahead a_cost a_may a_rest a_way c_n c_rain c_ear c_many c_seed c_taped c_from c_to c_token c_value c_imaged c_gravel c_kind c_own c_rowOf) [(3, .int v3), (4, .int x.1), (5, .int x.2)] Q 60 []) :
    kW p l e rm_R_loudOf s m args below meth c D A 8 (cells_R_loudOf cI cL cZ a_this a_gravel a_kind a_own a_likely a_tape a_holding a_rowLength a_rowOf a_refusals a_old a_ahead a_cost a_may a_rest a_way c_n c_rain c_ear c_many c_seed c_taped c_from c_to c_token c_value c_imaged c_gravel c_kind c_own c_rowOf) [(0, .ref a_this), (1, .int v1), (2, .int v2), (3, .int v3), (4, .int v4), (5, .int v5), (6, .int v6)] Q 14 [] := by
  unfold f_R_loudOf_l14 at h
  exact iter_W (T := fun sg => kW p l e rm_R_loudOf s m args below meth c D A 8 (cells_R_loudOf cI cL cZ a_this a_gravel a_kind a_own a_likely a_tape a_holding a_rowLength a_rowOf a_refusals a_old a_ahead a_cost a_may a_rest a_way c_n c_rain c_ear c_many c_seed c_taped c_from c_to c_token c_value c_imaged c_gravel c_kind c_own c_rowOf) [(0, .ref a_this), (1, .int v1), (2, .int v2), (3, .int v3), (4, .int sg.1), (5, .int sg.2.1), (6, .int sg.2.2)] Q 14 []) (fun sg y hy hc _ hr => s_R_loudOf_b14 C hy (fun s' e => hc s' e) (fun r e => by rw [hr r e]; exact k0)) FUEL _ h
set_option maxRecDepth 100000 in
set_option maxHeartbeats 4000000 in
theorem s_R_loudOf (C : kC p l e rm_R_loudOf s m args below meth c D (tyG cI cL cZ) A 8 cX5_loudOf yX5_loudOf.cls (Cond.code yX5_loudOf cX5_loudOf 8 (some .int) :: WS) (some .int)) {a_this : Nat} {a_gravel : Nat} {a_kind : Nat} {a_own : Nat} {a_likely : Nat} {a_tape : Nat} {a_holding : Nat} {a_rowLength : Nat} {a_rowOf : Nat} {a_refusals : Nat} {a_old : Nat} {a_ahead : Nat} {a_cost : Nat} {a_may : Nat} {a_rest : Nat} {a_way : Nat} {v1 : Int32} {v2 : Int32} {v3 : Int32} {c_n : Int32} {c_rain : Int32} {c_ear : Int32} {c_many : Int32} {c_seed : Int32} {c_taped : Int32} {c_from : Int32} {c_to : Int32} {c_token : Int32} {c_value : Int32} {c_imaged : Int32} {c_gravel : (Nat → Int32)} {c_kind : (Nat → Int32)} {c_own : (Nat → Int32)} {c_rowOf : (Nat → Int64)} {x : Int32} (h : f_R_loudOf v1 v2 v3 c_n c_rain c_ear c_gravel c_kind c_own c_rowOf = some x) :
    kW p l e rm_R_loudOf s m args below meth c D A 8 (cells_R_loudOf cI cL cZ a_this a_gravel a_kind a_own a_likely a_tape a_holding a_rowLength a_rowOf a_refusals a_old a_ahead a_cost a_may a_rest a_way c_n c_rain c_ear c_many c_seed c_taped c_from c_to c_token c_value c_imaged c_gravel c_kind c_own c_rowOf) [(0, .ref a_this), (1, .int v1), (2, .int v2), (3, .int v3)] (MQ below (kQi D A (cells_R_loudOf cI cL cZ a_this a_gravel a_kind a_own a_likely a_tape a_holding a_rowLength a_rowOf a_refusals a_old a_ahead a_cost a_may a_rest a_way c_n c_rain c_ear c_many c_seed c_taped c_from c_to c_token c_value c_imaged c_gravel c_kind c_own c_rowOf) x) args s 0 0 A) 0 [] := by
  unfold f_R_loudOf at h
  refine k_iconst C (v := (0 : Int32)) dX5_loudOf_0 (by decide) ?_
  refine k_istore C (lv' := [(4, .int (0 : Int32)), (0, .ref a_this), (1, .int v1), (2, .int v2), (3, .int v3)]) dX5_loudOf_1 (by decide) rfl ?_
  refine k_iconst C (v := (-1 : Int32)) dX5_loudOf_3 (by decide) ?_
  refine k_istore C (lv' := [(5, .int (-1 : Int32)), (4, .int (0 : Int32)), (0, .ref a_this), (1, .int v1), (2, .int v2), (3, .int v3)]) dX5_loudOf_4 (by decide) rfl ?_
  refine k_aload_n C dX5_loudOf_6 2 rfl rfl ?_
  refine k_get C (C0 := RX5) (T := TX5) (N := 26) (fun w h => List.mem_cons_of_mem _ (us_R w h)) 0 rfl rfl 0 (by decide) (List.mem_cons_of_mem _ wq_545) rfl rfl dX5_loudOf_7 ?_
  refine k_iconst C (v := (1 : Int32)) dX5_loudOf_10 (by decide) ?_
  refine k_isub C dX5_loudOf_11 ?_
  refine k_istore C (lv' := [(6, .int (c_n - (1 : Int32))), (5, .int (-1 : Int32)), (4, .int (0 : Int32)), (0, .ref a_this), (1, .int v1), (2, .int v2), (3, .int v3)]) dX5_loudOf_12 (by decide) rfl ?_
  obtain ⟨x3, hx3, h⟩ := bindE h
  refine k_lv (lv' := [(0, .ref a_this), (1, .int v1), (2, .int v2), (3, .int v3), (4, .int (0 : Int32)), (5, .int (-1 : Int32)), (6, .int (c_n - (1 : Int32)))]) [3, 4, 5, 6, 2, 1, 0] rfl ?_
  refine s_R_loudOf_l14 C hx3 ?_
  refine k_iload_n C dX5_loudOf_60 0 rfl rfl ?_
  refine k_if_ne C (tgt := 69) dX5_loudOf_61 (by decide) (fun c_61 => ?_) (fun c_61 => ?_)
  · have h := ifF c_61 h
    refine k_iload C dX5_loudOf_69 2 rfl ?_
    obtain rfl := Option.some.inj h
    exact kret_i C rfl dX5_loudOf_71
  · have h := ifT c_61 h
    refine k_iload C dX5_loudOf_64 1 rfl ?_
    refine k_goto C (tgt := 71) dX5_loudOf_66 (by decide) ?_
    obtain rfl := Option.some.inj h
    exact kret_i C rfl dX5_loudOf_71
theorem c_R_loudOf (l : Launch) (D : va_G) (cI : ClassId) (cL : ClassId) (cZ : ClassId) (sz : Nat) (a_this : Nat) (a_gravel : Nat) (a_kind : Nat) (a_own : Nat) (a_likely : Nat) (a_tape : Nat) (a_holding : Nat) (a_rowLength : Nat) (a_rowOf : Nat) (a_refusals : Nat) (a_old : Nat) (a_ahead : Nat) (a_cost : Nat) (a_may : Nat) (a_rest : Nat) (a_way : Nat) (v1 : Int32) (v2 : Int32) (v3 : Int32) (c_n : Int32) (c_rain : Int32) (c_ear : Int32) (c_many : Int32) (c_seed : Int32) (c_taped : Int32) (c_from : Int32) (c_to : Int32) (c_token : Int32) (c_value : Int32) (c_imaged : Int32) (c_gravel : (Nat → Int32)) (c_kind : (Nat → Int32)) (c_own : (Nat → Int32)) (c_rowOf : (Nat → Int64)) (x : Int32) (h : f_R_loudOf v1 v2 v3 c_n c_rain c_ear c_gravel c_kind c_own c_rowOf = some x) :
    Met l yX5_loudOf (Cond.code yX5_loudOf cX5_loudOf 8 (some .int) :: WS) rm_R_loudOf (kP D (tyG cI cL cZ) kTrue [.ref a_this, .int v1, .int v2, .int v3] sz (cells_R_loudOf cI cL cZ a_this a_gravel a_kind a_own a_likely a_tape a_holding a_rowLength a_rowOf a_refusals a_old a_ahead a_cost a_may a_rest a_way c_n c_rain c_ear c_many c_seed c_taped c_from c_to c_token c_value c_imaged c_gravel c_kind c_own c_rowOf)) (kQi D (va_A (cells_R_loudOf cI cL cZ a_this a_gravel a_kind a_own a_likely a_tape a_holding a_rowLength a_rowOf a_refusals a_old a_ahead a_cost a_may a_rest a_way c_n c_rain c_ear c_many c_seed c_taped c_from c_to c_token c_value c_imaged c_gravel c_kind c_own c_rowOf) sz) (cells_R_loudOf cI cL cZ a_this a_gravel a_kind a_own a_likely a_tape a_holding a_rowLength a_rowOf a_refusals a_old a_ahead a_cost a_may a_rest a_way c_n c_rain c_ear c_many c_seed c_taped c_from c_to c_token c_value c_imaged c_gravel c_kind c_own c_rowOf) x) 0 0 (va_A (cells_R_loudOf cI cL cZ a_this a_gravel a_kind a_own a_likely a_tape a_holding a_rowLength a_rowOf a_refusals a_old a_ahead a_cost a_may a_rest a_way c_n c_rain c_ear c_many c_seed c_taped c_from c_to c_token c_value c_imaged c_gravel c_kind c_own c_rowOf) sz) :=
  kmet (by decide) (Nat.le_of_ble_eq_true rfl) rfl (fun p e s m below meth c C hE => s_R_loudOf C h)
abbrev cells_R_loud (cI : ClassId) (cL : ClassId) (cZ : ClassId) (a_this : Nat) (a_gravel : Nat) (a_kind : Nat) (a_own : Nat) (a_likely : Nat) (a_tape : Nat) (a_holding : Nat) (a_rowLength : Nat) (a_rowOf : Nat) (a_refusals : Nat) (a_old : Nat) (a_ahead : Nat) (a_cost : Nat) (a_may : Nat) (a_rest : Nat) (a_way : Nat) (c_n : Int32) (c_rain : Int32) (c_ear : Int32) (c_many : Int32) (c_seed : Int32) (c_taped : Int32) (c_from : Int32) (c_to : Int32) (c_token : Int32) (c_value : Int32) (c_imaged : Int32) (c_gravel : (Nat → Int32)) (c_kind : (Nat → Int32)) (c_own : (Nat → Int32)) (c_holding : (Nat → Int32)) (c_rowLength : (Nat → Int32)) (c_rowOf : (Nat → Int64)) (c_refusals : (Nat → Int32)) : va_W := [(a_this, .inr (5, [.int c_n, .ref a_gravel, .int c_rain, .int c_ear, .int c_many, .ref a_kind, .ref a_own, .ref a_likely, .int c_seed, .int c_taped, .ref a_tape, .int c_from, .int c_to, .int c_token, .int c_value, .ref a_holding, .ref a_rowLength, .ref a_rowOf, .ref a_refusals, .int c_imaged, .ref a_old, .ref a_ahead, .ref a_cost, .ref a_may, .ref a_rest, .ref a_way])), (a_gravel, .inl (cI, 36, .inl c_gravel)), (a_kind, .inl (cI, 8, .inl c_kind)), (a_own, .inl (cI, 8, .inl c_own)), (a_holding, .inl (cI, 8, .inl c_holding)), (a_rowLength, .inl (cI, 8, .inl c_rowLength)), (a_rowOf, .inl (cL, 320, .inr (.inl c_rowOf))), (a_refusals, .inl (cI, 7, .inl c_refusals))]
abbrev rm_R_loud : Room := { frames := 5, cells := 0, slots := 0, locals := 127 }
set_option maxRecDepth 100000 in
set_option maxHeartbeats 4000000 in
theorem s_R_loud_j35 (C : kC p l e rm_R_loud s m args below meth c D (tyG cI cL cZ) A 6 cX5_loud yX5_loud.cls (Cond.code yX5_loud cX5_loud 6 (some .int) :: WS) (some .int)) {a_this : Nat} {a_gravel : Nat} {a_kind : Nat} {a_own : Nat} {a_likely : Nat} {a_tape : Nat} {a_holding : Nat} {a_rowLength : Nat} {a_rowOf : Nat} {a_refusals : Nat} {a_old : Nat} {a_ahead : Nat} {a_cost : Nat} {a_may : Nat} {a_rest : Nat} {a_way : Nat} {c_n : Int32} {c_rain : Int32} {c_ear : Int32} {c_many : Int32} {c_seed : Int32} {c_taped : Int32} {c_from : Int32} {c_to : Int32} {c_token : Int32} {c_value : Int32} {c_imaged : Int32} {c_gravel : (Nat → Int32)} {c_kind : (Nat → Int32)} {c_own : (Nat → Int32)} {c_holding : (Nat → Int32)} {c_rowLength : (Nat → Int32)} {c_rowOf : (Nat → Int64)} {c_refusals : (Nat → Int32)} {x : (Int32 × (Nat → Int32))} (h : f_R_loud_j35 c_refusals = some x) :
    kW p l e rm_R_loud s m args below meth c D A 6 (cells_R_loud cI cL cZ a_this a_gravel a_kind a_own a_likely a_tape a_holding a_rowLength a_rowOf a_refusals a_old a_ahead a_cost a_may a_rest a_way c_n c_rain c_ear c_many c_seed c_taped c_from c_to c_token c_value c_imaged c_gravel c_kind c_own c_holding c_rowLength c_rowOf c_refusals) [(0, .ref a_this)] (MQ below (kQi D A (cells_R_loud cI cL cZ a_this a_gravel a_kind a_own a_likely a_tape a_holding a_rowLength a_rowOf a_refusals a_old a_ahead a_cost a_may a_rest a_way c_n c_rain c_ear c_many c_seed c_taped c_from c_to c_token c_value c_imaged c_gravel c_kind c_own c_holding c_rowLength c_rowOf x.2) x.1) args s 0 0 A) 35 [] := by
  unfold f_R_loud_j35 at h
  refine k_aload_n C dX5_loud_35 0 rfl rfl ?_
  refine k_bipush C (v := (-2 : Int32)) dX5_loud_36 (by decide) ?_
  obtain ⟨x2, hx2, h⟩ := bindE h
  refine kcallU_i C (wc := (cells_R_no cI cL cZ a_this a_gravel a_kind a_own a_likely a_tape a_holding a_rowLength a_rowOf a_refusals a_old a_ahead a_cost a_may a_rest a_way c_n c_rain c_ear c_many c_seed c_taped c_from c_to c_token c_value c_imaged c_refusals)) (w1 := (cells_R_no cI cL cZ a_this a_gravel a_kind a_own a_likely a_tape a_holding a_rowLength a_rowOf a_refusals a_old a_ahead a_cost a_may a_rest a_way c_n c_rain c_ear c_many c_seed c_taped c_from c_to c_token c_value c_imaged x2.2)) (ws' := (cells_R_loud cI cL cZ a_this a_gravel a_kind a_own a_likely a_tape a_holding a_rowLength a_rowOf a_refusals a_old a_ahead a_cost a_may a_rest a_way c_n c_rain c_ear c_many c_seed c_taped c_from c_to c_token c_value c_imaged c_gravel c_kind c_own c_holding c_rowLength c_rowOf x2.2)) (r := x2.1) [0, 7] (fun H locs ls hP hD hS hF hz => krunV C (q0 := 0) (ci := 5) (c_R_no l D cI cL cZ H.size a_this a_gravel a_kind a_own a_likely a_tape a_holding a_rowLength a_rowOf a_refusals a_old a_ahead a_cost a_may a_rest a_way (-2 : Int32) c_n c_rain c_ear c_many c_seed c_taped c_from c_to c_token c_value c_imaged c_refusals x2 hx2) (cwV 1 C.2.2.2.2.1 (gV wq_551 wq_552 wq_553 wq_544 wq_550) rfl rfl rfl (by decide +kernel) ⟨(Nat.le_of_ble_eq_true rfl), (Nat.le_of_ble_eq_true rfl)⟩) rfl rfl kEnv_T rfl rfl (Nat.le_of_ble_eq_true rfl) dX5_loud_38 hP hD hz) rfl (by decide) rfl rfl ?_
  obtain rfl := Option.some.inj h
  exact kret_i C rfl dX5_loud_41
set_option maxRecDepth 100000 in
set_option maxHeartbeats 4000000 in
theorem s_R_loud (C : kC p l e rm_R_loud s m args below meth c D (tyG cI cL cZ) A 6 cX5_loud yX5_loud.cls (Cond.code yX5_loud cX5_loud 6 (some .int) :: WS) (some .int)) {a_this : Nat} {a_gravel : Nat} {a_kind : Nat} {a_own : Nat} {a_likely : Nat} {a_tape : Nat} {a_holding : Nat} {a_rowLength : Nat} {a_rowOf : Nat} {a_refusals : Nat} {a_old : Nat} {a_ahead : Nat} {a_cost : Nat} {a_may : Nat} {a_rest : Nat} {a_way : Nat} {v1 : Int32} {v2 : Int32} {v3 : Int32} {v4 : Int32} {c_n : Int32} {c_rain : Int32} {c_ear : Int32} {c_many : Int32} {c_seed : Int32} {c_taped : Int32} {c_from : Int32} {c_to : Int32} {c_token : Int32} {c_value : Int32} {c_imaged : Int32} {c_gravel : (Nat → Int32)} {c_kind : (Nat → Int32)} {c_own : (Nat → Int32)} {c_holding : (Nat → Int32)} {c_rowLength : (Nat → Int32)} {c_rowOf : (Nat → Int64)} {c_refusals : (Nat → Int32)} {x : (Int32 × (Nat → Int32))} (h : f_R_loud v1 v2 v3 v4 c_n c_rain c_ear c_many c_gravel c_kind c_own c_holding c_rowLength c_rowOf c_refusals = some x) :
    kW p l e rm_R_loud s m args below meth c D A 6 (cells_R_loud cI cL cZ a_this a_gravel a_kind a_own a_likely a_tape a_holding a_rowLength a_rowOf a_refusals a_old a_ahead a_cost a_may a_rest a_way c_n c_rain c_ear c_many c_seed c_taped c_from c_to c_token c_value c_imaged c_gravel c_kind c_own c_holding c_rowLength c_rowOf c_refusals) [(0, .ref a_this), (1, .int v1), (2, .int v2), (3, .int v3), (4, .int v4)] (MQ below (kQi D A (cells_R_loud cI cL cZ a_this a_gravel a_kind a_own a_likely a_tape a_holding a_rowLength a_rowOf a_refusals a_old a_ahead a_cost a_may a_rest a_way c_n c_rain c_ear c_many c_seed c_taped c_from c_to c_token c_value c_imaged c_gravel c_kind c_own c_holding c_rowLength c_rowOf x.2) x.1) args s 0 0 A) 0 [] := by
  unfold f_R_loud at h
  refine k_iload_n C dX5_loud_0 1 rfl rfl ?_
  obtain ⟨x1, hx1, h⟩ := bindE h
  refine kcallE_i C (r := x1) (fun H locs ls hP hD hS hF hz => krunS C (c_R_isShelf l D cI cL cZ H.size v1 x1 hx1) (va_cwS 1 C.2.2.2.2.1 (gS wq_548 wq_549 wq_544 wq_547) rfl rfl rfl (by decide +kernel) ⟨(Nat.le_of_ble_eq_true rfl), (Nat.le_of_ble_eq_true rfl)⟩) kEnv_T rfl rfl (Nat.le_of_ble_eq_true rfl) dX5_loud_1 hP hD hz) ?_
  refine k_if_eq C (tgt := 35) dX5_loud_4 (by decide) (fun c_4 => ?_) (fun c_4 => ?_)
  · have h := ifT c_4 h
    refine k_lv (lv' := [(0, .ref a_this)]) [0] rfl ?_
    exact s_R_loud_j35 C h
  · have h := ifF c_4 h
    refine k_iload_n C dX5_loud_7 2 rfl rfl ?_
    refine k_iconst C (v := (0 : Int32)) dX5_loud_8 (by decide) ?_
    refine k_bipush C (v := (40 : Int32)) dX5_loud_9 (by decide) ?_
    obtain ⟨x3, hx3, h⟩ := bindE h
    refine kcallE_i C (r := x3) (fun H locs ls hP hD hS hF hz => krunS C (c_R_within l D cI cL cZ H.size v2 (0 : Int32) (40 : Int32) x3 hx3) (va_cwS 3 C.2.2.2.2.1 (gS wq_542 wq_543 wq_544 wq_541) rfl rfl rfl (by decide +kernel) ⟨(Nat.le_of_ble_eq_true rfl), (Nat.le_of_ble_eq_true rfl)⟩) kEnv_T rfl rfl (Nat.le_of_ble_eq_true rfl) dX5_loud_11 hP hD hz) ?_
    refine k_if_eq C (tgt := 35) dX5_loud_14 (by decide) (fun c_14 => ?_) (fun c_14 => ?_)
    · have h := ifT c_14 h
      refine k_lv (lv' := [(0, .ref a_this)]) [0] rfl ?_
      exact s_R_loud_j35 C h
    · have h := ifF c_14 h
      refine k_aload_n C dX5_loud_17 0 rfl rfl ?_
      refine k_iload_n C dX5_loud_18 3 rfl rfl ?_
      obtain ⟨x4, hx4, h⟩ := bindE h
      refine kcallR_i C (wc := (cells_R_isFeet cI cL cZ a_this a_gravel a_kind a_own a_likely a_tape a_holding a_rowLength a_rowOf a_refusals a_old a_ahead a_cost a_may a_rest a_way c_n c_rain c_ear c_many c_seed c_taped c_from c_to c_token c_value c_imaged)) (r := x4) [0] (fun H locs ls hP hD hS hF hz => krunV C (q0 := 0) (ci := 5) (c_R_isFeet l D cI cL cZ H.size a_this a_gravel a_kind a_own a_likely a_tape a_holding a_rowLength a_rowOf a_refusals a_old a_ahead a_cost a_may a_rest a_way v3 c_n c_rain c_ear c_many c_seed c_taped c_from c_to c_token c_value c_imaged x4 hx4) (cwV 1 C.2.2.2.2.1 (gV wq_568 wq_569 wq_570 wq_544 wq_567) rfl rfl rfl (by decide +kernel) ⟨(Nat.le_of_ble_eq_true rfl), (Nat.le_of_ble_eq_true rfl)⟩) rfl rfl kEnv_T rfl rfl (Nat.le_of_ble_eq_true rfl) dX5_loud_19 hP hD hz) rfl (by decide) ?_
      refine k_if_eq C (tgt := 35) dX5_loud_22 (by decide) (fun c_22 => ?_) (fun c_22 => ?_)
      · have h := ifT c_22 h
        refine k_lv (lv' := [(0, .ref a_this)]) [0] rfl ?_
        exact s_R_loud_j35 C h
      · have h := ifF c_22 h
        refine k_iload C dX5_loud_25 4 rfl ?_
        refine k_iconst C (v := (0 : Int32)) dX5_loud_27 (by decide) ?_
        refine k_iconst C (v := (1 : Int32)) dX5_loud_28 (by decide) ?_
        obtain ⟨x5, hx5, h⟩ := bindE h
        refine kcallE_i C (r := x5) (fun H locs ls hP hD hS hF hz => krunS C (c_R_within l D cI cL cZ H.size v4 (0 : Int32) (1 : Int32) x5 hx5) (va_cwS 3 C.2.2.2.2.1 (gS wq_542 wq_543 wq_544 wq_541) rfl rfl rfl (by decide +kernel) ⟨(Nat.le_of_ble_eq_true rfl), (Nat.le_of_ble_eq_true rfl)⟩) kEnv_T rfl rfl (Nat.le_of_ble_eq_true rfl) dX5_loud_29 hP hD hz) ?_
        refine k_if_ne C (tgt := 42) dX5_loud_32 (by decide) (fun c_32 => ?_) (fun c_32 => ?_)
        · have h := ifF c_32 h
          refine k_aload_n C dX5_loud_42 0 rfl rfl ?_
          refine k_iload_n C dX5_loud_43 1 rfl rfl ?_
          refine k_iload_n C dX5_loud_44 2 rfl rfl ?_
          obtain ⟨x6, hx6, h⟩ := bindE h
          refine kcallR_i C (wc := (cells_R_noWay cI cL cZ a_this a_gravel a_kind a_own a_likely a_tape a_holding a_rowLength a_rowOf a_refusals a_old a_ahead a_cost a_may a_rest a_way c_n c_rain c_ear c_many c_seed c_taped c_from c_to c_token c_value c_imaged c_holding c_rowLength)) (r := x6) [0, 4, 5] (fun H locs ls hP hD hS hF hz => krunV C (q0 := 0) (ci := 5) (c_R_noWay l D cI cL cZ H.size a_this a_gravel a_kind a_own a_likely a_tape a_holding a_rowLength a_rowOf a_refusals a_old a_ahead a_cost a_may a_rest a_way v1 v2 c_n c_rain c_ear c_many c_seed c_taped c_from c_to c_token c_value c_imaged c_holding c_rowLength x6 hx6) (cwV 2 C.2.2.2.2.1 (gV wq_766 wq_767 wq_768 wq_544 wq_765) rfl rfl rfl (by decide +kernel) ⟨(Nat.le_of_ble_eq_true rfl), (Nat.le_of_ble_eq_true rfl)⟩) rfl rfl kEnv_T rfl rfl (Nat.le_of_ble_eq_true rfl) dX5_loud_45 hP hD hz) rfl (by decide) ?_
          refine k_istore C (lv' := [(5, .int x6), (0, .ref a_this), (1, .int v1), (2, .int v2), (3, .int v3), (4, .int v4)]) dX5_loud_48 (by decide) rfl ?_
          refine k_iload C dX5_loud_50 0 rfl ?_
          refine k_if_ge C (tgt := 62) dX5_loud_52 (by decide) (fun c_52 => ?_) (fun c_52 => ?_)
          · have h := ifT c_52 h
            refine k_aload_n C dX5_loud_62 1 rfl rfl ?_
            refine k_iload_n C dX5_loud_63 2 rfl rfl ?_
            refine k_iload_n C dX5_loud_64 3 rfl rfl ?_
            obtain ⟨x7, hx7, h⟩ := bindE h
            refine kcallR_i C (wc := (cells_R_wrong cI cL cZ a_this a_gravel a_kind a_own a_likely a_tape a_holding a_rowLength a_rowOf a_refusals a_old a_ahead a_cost a_may a_rest a_way c_n c_rain c_ear c_many c_seed c_taped c_from c_to c_token c_value c_imaged c_rowOf)) (r := x7) [0, 6] (fun H locs ls hP hD hS hF hz => krunV C (q0 := 0) (ci := 5) (c_R_wrong l D cI cL cZ H.size a_this a_gravel a_kind a_own a_likely a_tape a_holding a_rowLength a_rowOf a_refusals a_old a_ahead a_cost a_may a_rest a_way v1 v2 c_n c_rain c_ear c_many c_seed c_taped c_from c_to c_token c_value c_imaged c_rowOf x7 hx7) (cwV 2 C.2.2.2.2.1 (gV wq_770 wq_771 wq_772 wq_544 wq_769) rfl rfl rfl (by decide +kernel) ⟨(Nat.le_of_ble_eq_true rfl), (Nat.le_of_ble_eq_true rfl)⟩) rfl rfl kEnv_T rfl rfl (Nat.le_of_ble_eq_true rfl) dX5_loud_65 hP hD hz) rfl (by decide) ?_
            refine k_iconst C (v := (-1 : Int32)) dX5_loud_68 (by decide) ?_
            refine k_icmp_ne C (tgt := 83) dX5_loud_69 (by decide) (fun c_69 => ?_) (fun c_69 => ?_)
            · have h := ifF c_69 h
              refine k_aload_n C dX5_loud_83 1 rfl rfl ?_
              refine k_bipush C (v := (-5 : Int32)) dX5_loud_84 (by decide) ?_
              obtain ⟨x8, hx8, h⟩ := bindE h
              refine kcallU_i C (wc := (cells_R_no cI cL cZ a_this a_gravel a_kind a_own a_likely a_tape a_holding a_rowLength a_rowOf a_refusals a_old a_ahead a_cost a_may a_rest a_way c_n c_rain c_ear c_many c_seed c_taped c_from c_to c_token c_value c_imaged c_refusals)) (w1 := (cells_R_no cI cL cZ a_this a_gravel a_kind a_own a_likely a_tape a_holding a_rowLength a_rowOf a_refusals a_old a_ahead a_cost a_may a_rest a_way c_n c_rain c_ear c_many c_seed c_taped c_from c_to c_token c_value c_imaged x8.2)) (ws' := (cells_R_loud cI cL cZ a_this a_gravel a_kind a_own a_likely a_tape a_holding a_rowLength a_rowOf a_refusals a_old a_ahead a_cost a_may a_rest a_way c_n c_rain c_ear c_many c_seed c_taped c_from c_to c_token c_value c_imaged c_gravel c_kind c_own c_holding c_rowLength c_rowOf x8.2)) (r := x8.1) [0, 7] (fun H locs ls hP hD hS hF hz => krunV C (q0 := 0) (ci := 5) (c_R_no l D cI cL cZ H.size a_this a_gravel a_kind a_own a_likely a_tape a_holding a_rowLength a_rowOf a_refusals a_old a_ahead a_cost a_may a_rest a_way (-5 : Int32) c_n c_rain c_ear c_many c_seed c_taped c_from c_to c_token c_value c_imaged c_refusals x8 hx8) (cwV 1 C.2.2.2.2.1 (gV wq_551 wq_552 wq_553 wq_544 wq_550) rfl rfl rfl (by decide +kernel) ⟨(Nat.le_of_ble_eq_true rfl), (Nat.le_of_ble_eq_true rfl)⟩) rfl rfl kEnv_T rfl rfl (Nat.le_of_ble_eq_true rfl) dX5_loud_86 hP hD hz) rfl (by decide) rfl rfl ?_
              obtain rfl := Option.some.inj h
              exact kret_i C rfl dX5_loud_89
            · have h := ifT c_69 h
              refine k_aload_n C dX5_loud_72 1 rfl rfl ?_
              refine k_iload_n C dX5_loud_73 2 rfl rfl ?_
              refine k_iload_n C dX5_loud_74 4 rfl rfl ?_
              refine k_iload C dX5_loud_75 5 rfl ?_
              obtain ⟨x9, hx9, h⟩ := bindE h
              refine kcallR_i C (wc := (cells_R_loudOf cI cL cZ a_this a_gravel a_kind a_own a_likely a_tape a_holding a_rowLength a_rowOf a_refusals a_old a_ahead a_cost a_may a_rest a_way c_n c_rain c_ear c_many c_seed c_taped c_from c_to c_token c_value c_imaged c_gravel c_kind c_own c_rowOf)) (r := x9) [0, 1, 2, 3, 6] (fun H locs ls hP hD hS hF hz => krunV C (q0 := 0) (ci := 5) (c_R_loudOf l D cI cL cZ H.size a_this a_gravel a_kind a_own a_likely a_tape a_holding a_rowLength a_rowOf a_refusals a_old a_ahead a_cost a_may a_rest a_way v1 v3 v4 c_n c_rain c_ear c_many c_seed c_taped c_from c_to c_token c_value c_imaged c_gravel c_kind c_own c_rowOf x9 hx9) (cwV 3 C.2.2.2.2.1 (gV wq_774 wq_775 wq_776 wq_544 wq_773) rfl rfl rfl (by decide +kernel) ⟨(Nat.le_of_ble_eq_true rfl), (Nat.le_of_ble_eq_true rfl)⟩) rfl rfl kEnv_T rfl rfl (Nat.le_of_ble_eq_true rfl) dX5_loud_77 hP hD hz) rfl (by decide) ?_
              refine k_goto C (tgt := 89) dX5_loud_80 (by decide) ?_
              obtain rfl := Option.some.inj h
              exact kret_i C rfl dX5_loud_89
          · have h := ifF c_52 h
            refine k_aload_n C dX5_loud_55 1 rfl rfl ?_
            refine k_iload C dX5_loud_56 0 rfl ?_
            obtain ⟨x10, hx10, h⟩ := bindE h
            refine kcallU_i C (wc := (cells_R_no cI cL cZ a_this a_gravel a_kind a_own a_likely a_tape a_holding a_rowLength a_rowOf a_refusals a_old a_ahead a_cost a_may a_rest a_way c_n c_rain c_ear c_many c_seed c_taped c_from c_to c_token c_value c_imaged c_refusals)) (w1 := (cells_R_no cI cL cZ a_this a_gravel a_kind a_own a_likely a_tape a_holding a_rowLength a_rowOf a_refusals a_old a_ahead a_cost a_may a_rest a_way c_n c_rain c_ear c_many c_seed c_taped c_from c_to c_token c_value c_imaged x10.2)) (ws' := (cells_R_loud cI cL cZ a_this a_gravel a_kind a_own a_likely a_tape a_holding a_rowLength a_rowOf a_refusals a_old a_ahead a_cost a_may a_rest a_way c_n c_rain c_ear c_many c_seed c_taped c_from c_to c_token c_value c_imaged c_gravel c_kind c_own c_holding c_rowLength c_rowOf x10.2)) (r := x10.1) [0, 7] (fun H locs ls hP hD hS hF hz => krunV C (q0 := 0) (ci := 5) (c_R_no l D cI cL cZ H.size a_this a_gravel a_kind a_own a_likely a_tape a_holding a_rowLength a_rowOf a_refusals a_old a_ahead a_cost a_may a_rest a_way x6 c_n c_rain c_ear c_many c_seed c_taped c_from c_to c_token c_value c_imaged c_refusals x10 hx10) (cwV 1 C.2.2.2.2.1 (gV wq_551 wq_552 wq_553 wq_544 wq_550) rfl rfl rfl (by decide +kernel) ⟨(Nat.le_of_ble_eq_true rfl), (Nat.le_of_ble_eq_true rfl)⟩) rfl rfl kEnv_T rfl rfl (Nat.le_of_ble_eq_true rfl) dX5_loud_58 hP hD hz) rfl (by decide) rfl rfl ?_
            obtain rfl := Option.some.inj h
            exact kret_i C rfl dX5_loud_61
        · have h := ifT c_32 h
          refine k_lv (lv' := [(0, .ref a_this)]) [0] rfl ?_
          exact s_R_loud_j35 C h
theorem c_R_loud (l : Launch) (D : va_G) (cI : ClassId) (cL : ClassId) (cZ : ClassId) (sz : Nat) (a_this : Nat) (a_gravel : Nat) (a_kind : Nat) (a_own : Nat) (a_likely : Nat) (a_tape : Nat) (a_holding : Nat) (a_rowLength : Nat) (a_rowOf : Nat) (a_refusals : Nat) (a_old : Nat) (a_ahead : Nat) (a_cost : Nat) (a_may : Nat) (a_rest : Nat) (a_way : Nat) (v1 : Int32) (v2 : Int32) (v3 : Int32) (v4 : Int32) (c_n : Int32) (c_rain : Int32) (c_ear : Int32) (c_many : Int32) (c_seed : Int32) (c_taped : Int32) (c_from : Int32) (c_to : Int32) (c_token : Int32) (c_value : Int32) (c_imaged : Int32) (c_gravel : (Nat → Int32)) (c_kind : (Nat → Int32)) (c_own : (Nat → Int32)) (c_holding : (Nat → Int32)) (c_rowLength : (Nat → Int32)) (c_rowOf : (Nat → Int64)) (c_refusals : (Nat → Int32)) (x : (Int32 × (Nat → Int32))) (h : f_R_loud v1 v2 v3 v4 c_n c_rain c_ear c_many c_gravel c_kind c_own c_holding c_rowLength c_rowOf c_refusals = some x) :
    Met l yX5_loud (Cond.code yX5_loud cX5_loud 6 (some .int) :: WS) rm_R_loud (kP D (tyG cI cL cZ) kTrue [.ref a_this, .int v1, .int v2, .int v3, .int v4] sz (cells_R_loud cI cL cZ a_this a_gravel a_kind a_own a_likely a_tape a_holding a_rowLength a_rowOf a_refusals a_old a_ahead a_cost a_may a_rest a_way c_n c_rain c_ear c_many c_seed c_taped c_from c_to c_token c_value c_imaged c_gravel c_kind c_own c_holding c_rowLength c_rowOf c_refusals)) (kQi D (va_A (cells_R_loud cI cL cZ a_this a_gravel a_kind a_own a_likely a_tape a_holding a_rowLength a_rowOf a_refusals a_old a_ahead a_cost a_may a_rest a_way c_n c_rain c_ear c_many c_seed c_taped c_from c_to c_token c_value c_imaged c_gravel c_kind c_own c_holding c_rowLength c_rowOf c_refusals) sz) (cells_R_loud cI cL cZ a_this a_gravel a_kind a_own a_likely a_tape a_holding a_rowLength a_rowOf a_refusals a_old a_ahead a_cost a_may a_rest a_way c_n c_rain c_ear c_many c_seed c_taped c_from c_to c_token c_value c_imaged c_gravel c_kind c_own c_holding c_rowLength c_rowOf x.2) x.1) 0 0 (va_A (cells_R_loud cI cL cZ a_this a_gravel a_kind a_own a_likely a_tape a_holding a_rowLength a_rowOf a_refusals a_old a_ahead a_cost a_may a_rest a_way c_n c_rain c_ear c_many c_seed c_taped c_from c_to c_token c_value c_imaged c_gravel c_kind c_own c_holding c_rowLength c_rowOf c_refusals) sz) :=
  kmet (by decide) (Nat.le_of_ble_eq_true rfl) rfl (fun p e s m below meth c C hE => s_R_loud C h)
abbrev cells_R_done (cI : ClassId) (cL : ClassId) (cZ : ClassId) (a_this : Nat) (a_gravel : Nat) (a_kind : Nat) (a_own : Nat) (a_likely : Nat) (a_tape : Nat) (a_holding : Nat) (a_rowLength : Nat) (a_rowOf : Nat) (a_refusals : Nat) (a_old : Nat) (a_ahead : Nat) (a_cost : Nat) (a_may : Nat) (a_rest : Nat) (a_way : Nat) (c_n : Int32) (c_rain : Int32) (c_ear : Int32) (c_many : Int32) (c_seed : Int32) (c_taped : Int32) (c_from : Int32) (c_to : Int32) (c_token : Int32) (c_value : Int32) (c_imaged : Int32) (c_gravel : (Nat → Int32)) (c_kind : (Nat → Int32)) (c_own : (Nat → Int32)) (c_holding : (Nat → Int32)) (c_rowLength : (Nat → Int32)) (c_rowOf : (Nat → Int64)) (c_refusals : (Nat → Int32)) : va_W := [(a_this, .inr (5, [.int c_n, .ref a_gravel, .int c_rain, .int c_ear, .int c_many, .ref a_kind, .ref a_own, .ref a_likely, .int c_seed, .int c_taped, .ref a_tape, .int c_from, .int c_to, .int c_token, .int c_value, .ref a_holding, .ref a_rowLength, .ref a_rowOf, .ref a_refusals, .int c_imaged, .ref a_old, .ref a_ahead, .ref a_cost, .ref a_may, .ref a_rest, .ref a_way])), (a_gravel, .inl (cI, 36, .inl c_gravel)), (a_kind, .inl (cI, 8, .inl c_kind)), (a_own, .inl (cI, 8, .inl c_own)), (a_holding, .inl (cI, 8, .inl c_holding)), (a_rowLength, .inl (cI, 8, .inl c_rowLength)), (a_rowOf, .inl (cL, 320, .inr (.inl c_rowOf))), (a_refusals, .inl (cI, 7, .inl c_refusals))]
abbrev rm_R_done : Room := { frames := 5, cells := 0, slots := 0, locals := 127 }
set_option maxRecDepth 100000 in
set_option maxHeartbeats 4000000 in
theorem s_R_done_j25 (C : kC p l e rm_R_done s m args below meth c D (tyG cI cL cZ) A 8 cX5_done yX5_done.cls (Cond.code yX5_done cX5_done 8 (some .int) :: WS) (some .int)) {a_this : Nat} {a_gravel : Nat} {a_kind : Nat} {a_own : Nat} {a_likely : Nat} {a_tape : Nat} {a_holding : Nat} {a_rowLength : Nat} {a_rowOf : Nat} {a_refusals : Nat} {a_old : Nat} {a_ahead : Nat} {a_cost : Nat} {a_may : Nat} {a_rest : Nat} {a_way : Nat} {c_n : Int32} {c_rain : Int32} {c_ear : Int32} {c_many : Int32} {c_seed : Int32} {c_taped : Int32} {c_from : Int32} {c_to : Int32} {c_token : Int32} {c_value : Int32} {c_imaged : Int32} {c_gravel : (Nat → Int32)} {c_kind : (Nat → Int32)} {c_own : (Nat → Int32)} {c_holding : (Nat → Int32)} {c_rowLength : (Nat → Int32)} {c_rowOf : (Nat → Int64)} {c_refusals : (Nat → Int32)} {x : (Int32 × (Nat → Int32) × (Nat → Int32))} (h : f_R_done_j25 c_gravel c_refusals = some x) :
    kW p l e rm_R_done s m args below meth c D A 8 (cells_R_done cI cL cZ a_this a_gravel a_kind a_own a_likely a_tape a_holding a_rowLength a_rowOf a_refusals a_old a_ahead a_cost a_may a_rest a_way c_n c_rain c_ear c_many c_seed c_taped c_from c_to c_token c_value c_imaged c_gravel c_kind c_own c_holding c_rowLength c_rowOf c_refusals) [(0, .ref a_this)] (MQ below (kQi D A (cells_R_done cI cL cZ a_this a_gravel a_kind a_own a_likely a_tape a_holding a_rowLength a_rowOf a_refusals a_old a_ahead a_cost a_may a_rest a_way c_n c_rain c_ear c_many c_seed c_taped c_from c_to c_token c_value c_imaged x.2.1 c_kind c_own c_holding c_rowLength c_rowOf x.2.2) x.1) args s 0 0 A) 25 [] := by
  unfold f_R_done_j25 at h
  refine k_aload_n C dX5_done_25 0 rfl rfl ?_
  refine k_bipush C (v := (-2 : Int32)) dX5_done_26 (by decide) ?_
  obtain ⟨x2, hx2, h⟩ := bindE h
  refine kcallU_i C (wc := (cells_R_no cI cL cZ a_this a_gravel a_kind a_own a_likely a_tape a_holding a_rowLength a_rowOf a_refusals a_old a_ahead a_cost a_may a_rest a_way c_n c_rain c_ear c_many c_seed c_taped c_from c_to c_token c_value c_imaged c_refusals)) (w1 := (cells_R_no cI cL cZ a_this a_gravel a_kind a_own a_likely a_tape a_holding a_rowLength a_rowOf a_refusals a_old a_ahead a_cost a_may a_rest a_way c_n c_rain c_ear c_many c_seed c_taped c_from c_to c_token c_value c_imaged x2.2)) (ws' := (cells_R_done cI cL cZ a_this a_gravel a_kind a_own a_likely a_tape a_holding a_rowLength a_rowOf a_refusals a_old a_ahead a_cost a_may a_rest a_way c_n c_rain c_ear c_many c_seed c_taped c_from c_to c_token c_value c_imaged c_gravel c_kind c_own c_holding c_rowLength c_rowOf x2.2)) (r := x2.1) [0, 7] (fun H locs ls hP hD hS hF hz => krunV C (q0 := 0) (ci := 5) (c_R_no l D cI cL cZ H.size a_this a_gravel a_kind a_own a_likely a_tape a_holding a_rowLength a_rowOf a_refusals a_old a_ahead a_cost a_may a_rest a_way (-2 : Int32) c_n c_rain c_ear c_many c_seed c_taped c_from c_to c_token c_value c_imaged c_refusals x2 hx2) (cwV 1 C.2.2.2.2.1 (gV wq_551 wq_552 wq_553 wq_544 wq_550) rfl rfl rfl (by decide +kernel) ⟨(Nat.le_of_ble_eq_true rfl), (Nat.le_of_ble_eq_true rfl)⟩) rfl rfl kEnv_T rfl rfl (Nat.le_of_ble_eq_true rfl) dX5_done_28 hP hD hz) rfl (by decide) rfl rfl ?_
  obtain rfl := Option.some.inj h
  exact kret_i C rfl dX5_done_31
set_option maxRecDepth 100000 in
set_option maxHeartbeats 4000000 in
theorem s_R_done_b81 (C : kC p l e rm_R_done s m args below meth c D (tyG cI cL cZ) A 8 cX5_done yX5_done.cls (Cond.code yX5_done cX5_done 8 (some .int) :: WS) (some .int)) {a_this : Nat} {a_gravel : Nat} {a_kind : Nat} {a_own : Nat} {a_likely : Nat} {a_tape : Nat} {a_holding : Nat} {a_rowLength : Nat} {a_rowOf : Nat} {a_refusals : Nat} {a_old : Nat} {a_ahead : Nat} {a_cost : Nat} {a_may : Nat} {a_rest : Nat} {a_way : Nat} {v1 : Int32} {v5 : Int32} {v6 : Int32} {c_n : Int32} {c_rain : Int32} {c_ear : Int32} {c_many : Int32} {c_seed : Int32} {c_taped : Int32} {c_from : Int32} {c_to : Int32} {c_token : Int32} {c_value : Int32} {c_imaged : Int32} {c_gravel : (Nat → Int32)} {c_kind : (Nat → Int32)} {c_own : (Nat → Int32)} {c_holding : (Nat → Int32)} {c_rowLength : (Nat → Int32)} {c_rowOf : (Nat → Int64)} {c_refusals : (Nat → Int32)} {x : ((Int32 × (Nat → Int32)) ⊕ (Nat → Int32))} (h : f_R_done_b81 v1 c_n c_rowOf v6 c_gravel = some x)
    (kc : ∀ s', x = .inl s' → kW p l e rm_R_done s m args below meth c D A 8 (cells_R_done cI cL cZ a_this a_gravel a_kind a_own a_likely a_tape a_holding a_rowLength a_rowOf a_refusals a_old a_ahead a_cost a_may a_rest a_way c_n c_rain c_ear c_many c_seed c_taped c_from c_to c_token c_value c_imaged s'.2 c_kind c_own c_holding c_rowLength c_rowOf c_refusals) [(0, .ref a_this), (1, .int v1), (5, .int v5), (6, .int s'.1)] Q 81 [])
    (k0 : ∀ r, x = .inr r → kW p l e rm_R_done s m args below meth c D A 8 (cells_R_done cI cL cZ a_this a_gravel a_kind a_own a_likely a_tape a_holding a_rowLength a_rowOf a_refusals a_old a_ahead a_cost a_may a_rest a_way c_n c_rain c_ear c_many c_seed c_taped c_from c_to c_token c_value c_imaged r c_kind c_own c_holding c_rowLength c_rowOf c_refusals) [(5, .int v5)] Q 126 []) :
    kW p l e rm_R_done s m args below meth c D A 8 (cells_R_done cI cL cZ a_this a_gravel a_kind a_own a_likely a_tape a_holding a_rowLength a_rowOf a_refusals a_old a_ahead a_cost a_may a_rest a_way c_n c_rain c_ear c_many c_seed c_taped c_from c_to c_token c_value c_imaged c_gravel c_kind c_own c_holding c_rowLength c_rowOf c_refusals) [(0, .ref a_this), (1, .int v1), (5, .int v5), (6, .int v6)] Q 81 [] := by
  unfold f_R_done_b81 at h
  refine k_iload C dX5_done_81 3 rfl ?_
  refine k_aload_n C dX5_done_83 0 rfl rfl ?_
  refine k_get C (C0 := RX5) (T := TX5) (N := 26) (fun w h => List.mem_cons_of_mem _ (us_R w h)) 0 rfl rfl 0 (by decide) (List.mem_cons_of_mem _ wq_545) rfl rfl dX5_done_84 ?_
  refine k_icmp_ge C (tgt := 126) dX5_done_87 (by decide) (fun c_87 => ?_) (fun c_87 => ?_)
  · have h := ifT c_87 h
    refine k_lv (lv' := [(5, .int v5)]) [2] rfl ?_
    exact k0 _ (Option.some.inj h).symm
  · have h := ifF c_87 h
    refine k_aload_n C dX5_done_90 0 rfl rfl ?_
    refine k_iload_n C dX5_done_91 1 rfl rfl ?_
    refine k_iload C dX5_done_92 3 rfl ?_
    obtain ⟨x8, hx8, h⟩ := bindE h
    refine kcallR_l C (wc := (cells_R_toldAt cI cL cZ a_this a_gravel a_kind a_own a_likely a_tape a_holding a_rowLength a_rowOf a_refusals a_old a_ahead a_cost a_may a_rest a_way c_n c_rain c_ear c_many c_seed c_taped c_from c_to c_token c_value c_imaged c_rowOf)) (r := x8) [0, 6] (fun H locs ls hP hD hS hF hz => krunV C (q0 := 0) (ci := 5) (c_R_toldAt l D cI cL cZ H.size a_this a_gravel a_kind a_own a_likely a_tape a_holding a_rowLength a_rowOf a_refusals a_old a_ahead a_cost a_may a_rest a_way v1 v6 c_n c_rain c_ear c_many c_seed c_taped c_from c_to c_token c_value c_imaged c_rowOf x8 hx8) (cwV 2 C.2.2.2.2.1 (gV wq_734 wq_735 wq_736 wq_544 wq_733) rfl rfl rfl (by decide +kernel) ⟨(Nat.le_of_ble_eq_true rfl), (Nat.le_of_ble_eq_true rfl)⟩) rfl rfl kEnv_T rfl rfl (Nat.le_of_ble_eq_true rfl) dX5_done_94 hP hD hz) rfl (by decide) ?_
    refine k_l2i C dX5_done_97 ?_
    refine k_istore C (lv' := [(7, .int (Int64.toInt32 x8)), (0, .ref a_this), (1, .int v1), (5, .int v5), (6, .int v6)]) dX5_done_98 (by decide) rfl ?_
    refine k_aload_n C dX5_done_100 1 rfl rfl ?_
    refine k_get C (C0 := RX5) (T := TX5) (N := 26) (fun w h => List.mem_cons_of_mem _ (us_R w h)) 0 rfl rfl 1 (by decide) (List.mem_cons_of_mem _ wq_571) rfl rfl dX5_done_101 ?_
    refine k_iload C dX5_done_104 0 rfl ?_
    refine k_iconst C (v := (0 : Int32)) dX5_done_106 (by decide) ?_
    refine k_aload_n C dX5_done_107 1 rfl rfl ?_
    refine k_get C (C0 := RX5) (T := TX5) (N := 26) (fun w h => List.mem_cons_of_mem _ (us_R w h)) 0 rfl rfl 1 (by decide) (List.mem_cons_of_mem _ wq_571) rfl rfl dX5_done_108 ?_
    refine k_iload C dX5_done_111 0 rfl ?_
    obtain ⟨x9, hx9, h⟩ := bindE h
    refine k_iald C 1 0 rfl rfl hx9 dX5_done_113 ?_
    refine k_iconst C (v := (1 : Int32)) dX5_done_114 (by decide) ?_
    refine k_isub C dX5_done_115 ?_
    refine k_mmax C (List.mem_cons_of_mem _ wq_573) (List.mem_cons_of_mem _ wq_83) (List.mem_cons_of_mem _ wq_84) (List.mem_cons_of_mem _ wq_85) (Nat.le_of_ble_eq_true rfl) (Nat.le_of_ble_eq_true rfl) dX5_done_116 ?_
    obtain ⟨x10, hx10, h⟩ := bindE h
    refine k_iast C 1 0 (ws' := (cells_R_done cI cL cZ a_this a_gravel a_kind a_own a_likely a_tape a_holding a_rowLength a_rowOf a_refusals a_old a_ahead a_cost a_may a_rest a_way c_n c_rain c_ear c_many c_seed c_taped c_from c_to c_token c_value c_imaged x10 c_kind c_own c_holding c_rowLength c_rowOf c_refusals)) rfl rfl hx10 rfl dX5_done_119 ?_
    refine k_iinc C (v := (v6 + (1 : Int32))) (lv' := [(6, .int (v6 + (1 : Int32))), (7, .int (Int64.toInt32 x8)), (0, .ref a_this), (1, .int v1), (5, .int v5)]) dX5_done_120 4 rfl rfl (by decide) rfl ?_
    refine k_goto C (tgt := 81) dX5_done_123 (by decide) ?_
    refine k_lv (lv' := [(0, .ref a_this), (1, .int v1), (5, .int v5), (6, .int (v6 + (1 : Int32)))]) [2, 3, 4, 0] rfl ?_
    exact kc _ (Option.some.inj h).symm
set_option maxRecDepth 100000 in
set_option maxHeartbeats 4000000 in
theorem s_R_done_l81 (C : kC p l e rm_R_done s m args below meth c D (tyG cI cL cZ) A 8 cX5_done yX5_done.cls (Cond.code yX5_done cX5_done 8 (some .int) :: WS) (some .int)) {a_this : Nat} {a_gravel : Nat} {a_kind : Nat} {a_own : Nat} {a_likely : Nat} {a_tape : Nat} {a_holding : Nat} {a_rowLength : Nat} {a_rowOf : Nat} {a_refusals : Nat} {a_old : Nat} {a_ahead : Nat} {a_cost : Nat} {a_may : Nat} {a_rest : Nat} {a_way : Nat} {v1 : Int32} {v5 : Int32} {v6 : Int32} {c_n : Int32} {c_rain : Int32} {c_ear : Int32} {c_many : Int32} {c_seed : Int32} {c_taped : Int32} {c_from : Int32} {c_to : Int32} {c_token : Int32} {c_value : Int32} {c_imaged : Int32} {c_gravel : (Nat → Int32)} {c_kind : (Nat → Int32)} {c_own : (Nat → Int32)} {c_holding : (Nat → Int32)} {c_rowLength : (Nat → Int32)} {c_rowOf : (Nat → Int64)} {c_refusals : (Nat → Int32)} {x : (Nat → Int32)} (h : f_R_done_l81 v1 c_n c_rowOf v6 c_gravel = some x)
    (k0 : kW p l e rm_R_done s m args below meth c D A 8 (cells_R_done cI cL cZ a_this a_gravel a_kind a_own a_likely a_tape a_holding a_rowLength a_rowOf a_refusals a_old a_ahead a_cost a_may a_rest a_way c_n c_rain c_ear c_many c_seed c_taped c_from c_to c_token c_value c_imaged x c_kind c_own c_holding c_rowLength c_rowOf c_refusals) [(5, .int v5)] Q 126 []) :
    kW p l e rm_R_done s m args below meth c D A 8 (cells_R_done cI cL cZ a_this a_gravel a_kind a_own a_likely a_tape a_holding a_rowLength a_rowOf a_refusals a_old a_ahead a_cost a_may a_rest a_way c_n c_rain c_ear c_many c_seed c_taped c_from c_to c_token c_value c_imaged c_gravel c_kind c_own c_holding c_rowLength c_rowOf c_refusals) [(0, .ref a_this), (1, .int v1), (5, .int v5), (6, .int v6)] Q 81 [] := by
  unfold f_R_done_l81 at h
  exact iter_W (T := fun sg => kW p l e rm_R_done s m args below meth c D A 8 (cells_R_done cI cL cZ a_this a_gravel a_kind a_own a_likely a_tape a_holding a_rowLength a_rowOf a_refusals a_old a_ahead a_cost a_may a_rest a_way c_n c_rain c_ear c_many c_seed c_taped c_from c_to c_token c_value c_imaged sg.2 c_kind c_own c_holding c_rowLength c_rowOf c_refusals) [(0, .ref a_this), (1, .int v1), (5, .int v5), (6, .int sg.1)] Q 81 []) (fun sg y hy hc _ hr => s_R_done_b81 C hy (fun s' e => hc s' e) (fun r e => by rw [hr r e]; exact k0)) FUEL _ h
set_option maxRecDepth 100000 in
set_option maxHeartbeats 4000000 in
theorem s_R_done (C : kC p l e rm_R_done s m args below meth c D (tyG cI cL cZ) A 8 cX5_done yX5_done.cls (Cond.code yX5_done cX5_done 8 (some .int) :: WS) (some .int)) {a_this : Nat} {a_gravel : Nat} {a_kind : Nat} {a_own : Nat} {a_likely : Nat} {a_tape : Nat} {a_holding : Nat} {a_rowLength : Nat} {a_rowOf : Nat} {a_refusals : Nat} {a_old : Nat} {a_ahead : Nat} {a_cost : Nat} {a_may : Nat} {a_rest : Nat} {a_way : Nat} {v1 : Int32} {v2 : Int32} {v3 : Int32} {c_n : Int32} {c_rain : Int32} {c_ear : Int32} {c_many : Int32} {c_seed : Int32} {c_taped : Int32} {c_from : Int32} {c_to : Int32} {c_token : Int32} {c_value : Int32} {c_imaged : Int32} {c_gravel : (Nat → Int32)} {c_kind : (Nat → Int32)} {c_own : (Nat → Int32)} {c_holding : (Nat → Int32)} {c_rowLength : (Nat → Int32)} {c_rowOf : (Nat → Int64)} {c_refusals : (Nat → Int32)} {x : (Int32 × (Nat → Int32) × (Nat → Int32))} (h : f_R_done v1 v2 v3 c_n c_rain c_ear c_many c_gravel c_kind c_own c_holding c_rowLength c_rowOf c_refusals = some x) :
    kW p l e rm_R_done s m args below meth c D A 8 (cells_R_done cI cL cZ a_this a_gravel a_kind a_own a_likely a_tape a_holding a_rowLength a_rowOf a_refusals a_old a_ahead a_cost a_may a_rest a_way c_n c_rain c_ear c_many c_seed c_taped c_from c_to c_token c_value c_imaged c_gravel c_kind c_own c_holding c_rowLength c_rowOf c_refusals) [(0, .ref a_this), (1, .int v1), (2, .int v2), (3, .int v3)] (MQ below (kQi D A (cells_R_done cI cL cZ a_this a_gravel a_kind a_own a_likely a_tape a_holding a_rowLength a_rowOf a_refusals a_old a_ahead a_cost a_may a_rest a_way c_n c_rain c_ear c_many c_seed c_taped c_from c_to c_token c_value c_imaged x.2.1 c_kind c_own c_holding c_rowLength c_rowOf x.2.2) x.1) args s 0 0 A) 0 [] := by
  unfold f_R_done at h
  refine k_iload_n C dX5_done_0 1 rfl rfl ?_
  obtain ⟨x1, hx1, h⟩ := bindE h
  refine kcallE_i C (r := x1) (fun H locs ls hP hD hS hF hz => krunS C (c_R_isShelf l D cI cL cZ H.size v1 x1 hx1) (va_cwS 1 C.2.2.2.2.1 (gS wq_548 wq_549 wq_544 wq_547) rfl rfl rfl (by decide +kernel) ⟨(Nat.le_of_ble_eq_true rfl), (Nat.le_of_ble_eq_true rfl)⟩) kEnv_T rfl rfl (Nat.le_of_ble_eq_true rfl) dX5_done_1 hP hD hz) ?_
  refine k_if_eq C (tgt := 25) dX5_done_4 (by decide) (fun c_4 => ?_) (fun c_4 => ?_)
  · have h := ifT c_4 h
    refine k_lv (lv' := [(0, .ref a_this)]) [0] rfl ?_
    exact s_R_done_j25 C h
  · have h := ifF c_4 h
    refine k_iload_n C dX5_done_7 2 rfl rfl ?_
    refine k_iconst C (v := (0 : Int32)) dX5_done_8 (by decide) ?_
    refine k_bipush C (v := (40 : Int32)) dX5_done_9 (by decide) ?_
    obtain ⟨x3, hx3, h⟩ := bindE h
    refine kcallE_i C (r := x3) (fun H locs ls hP hD hS hF hz => krunS C (c_R_within l D cI cL cZ H.size v2 (0 : Int32) (40 : Int32) x3 hx3) (va_cwS 3 C.2.2.2.2.1 (gS wq_542 wq_543 wq_544 wq_541) rfl rfl rfl (by decide +kernel) ⟨(Nat.le_of_ble_eq_true rfl), (Nat.le_of_ble_eq_true rfl)⟩) kEnv_T rfl rfl (Nat.le_of_ble_eq_true rfl) dX5_done_11 hP hD hz) ?_
    refine k_if_eq C (tgt := 25) dX5_done_14 (by decide) (fun c_14 => ?_) (fun c_14 => ?_)
    · have h := ifT c_14 h
      refine k_lv (lv' := [(0, .ref a_this)]) [0] rfl ?_
      exact s_R_done_j25 C h
    · have h := ifF c_14 h
      refine k_aload_n C dX5_done_17 0 rfl rfl ?_
      refine k_iload_n C dX5_done_18 3 rfl rfl ?_
      obtain ⟨x4, hx4, h⟩ := bindE h
      refine kcallR_i C (wc := (cells_R_isFeet cI cL cZ a_this a_gravel a_kind a_own a_likely a_tape a_holding a_rowLength a_rowOf a_refusals a_old a_ahead a_cost a_may a_rest a_way c_n c_rain c_ear c_many c_seed c_taped c_from c_to c_token c_value c_imaged)) (r := x4) [0] (fun H locs ls hP hD hS hF hz => krunV C (q0 := 0) (ci := 5) (c_R_isFeet l D cI cL cZ H.size a_this a_gravel a_kind a_own a_likely a_tape a_holding a_rowLength a_rowOf a_refusals a_old a_ahead a_cost a_may a_rest a_way v3 c_n c_rain c_ear c_many c_seed c_taped c_from c_to c_token c_value c_imaged x4 hx4) (cwV 1 C.2.2.2.2.1 (gV wq_568 wq_569 wq_570 wq_544 wq_567) rfl rfl rfl (by decide +kernel) ⟨(Nat.le_of_ble_eq_true rfl), (Nat.le_of_ble_eq_true rfl)⟩) rfl rfl kEnv_T rfl rfl (Nat.le_of_ble_eq_true rfl) dX5_done_19 hP hD hz) rfl (by decide) ?_
      refine k_if_ne C (tgt := 32) dX5_done_22 (by decide) (fun c_22 => ?_) (fun c_22 => ?_)
      · have h := ifF c_22 h
        refine k_aload_n C dX5_done_32 0 rfl rfl ?_
        refine k_iload_n C dX5_done_33 1 rfl rfl ?_
        refine k_iload_n C dX5_done_34 2 rfl rfl ?_
        obtain ⟨x5, hx5, h⟩ := bindE h
        refine kcallR_i C (wc := (cells_R_noWay cI cL cZ a_this a_gravel a_kind a_own a_likely a_tape a_holding a_rowLength a_rowOf a_refusals a_old a_ahead a_cost a_may a_rest a_way c_n c_rain c_ear c_many c_seed c_taped c_from c_to c_token c_value c_imaged c_holding c_rowLength)) (r := x5) [0, 4, 5] (fun H locs ls hP hD hS hF hz => krunV C (q0 := 0) (ci := 5) (c_R_noWay l D cI cL cZ H.size a_this a_gravel a_kind a_own a_likely a_tape a_holding a_rowLength a_rowOf a_refusals a_old a_ahead a_cost a_may a_rest a_way v1 v2 c_n c_rain c_ear c_many c_seed c_taped c_from c_to c_token c_value c_imaged c_holding c_rowLength x5 hx5) (cwV 2 C.2.2.2.2.1 (gV wq_766 wq_767 wq_768 wq_544 wq_765) rfl rfl rfl (by decide +kernel) ⟨(Nat.le_of_ble_eq_true rfl), (Nat.le_of_ble_eq_true rfl)⟩) rfl rfl kEnv_T rfl rfl (Nat.le_of_ble_eq_true rfl) dX5_done_35 hP hD hz) rfl (by decide) ?_
        refine k_istore C (lv' := [(4, .int x5), (0, .ref a_this), (1, .int v1), (2, .int v2), (3, .int v3)]) dX5_done_38 (by decide) rfl ?_
        refine k_iload C dX5_done_40 0 rfl ?_
        refine k_if_ge C (tgt := 52) dX5_done_42 (by decide) (fun c_42 => ?_) (fun c_42 => ?_)
        · have h := ifT c_42 h
          refine k_aload_n C dX5_done_52 1 rfl rfl ?_
          refine k_iload_n C dX5_done_53 2 rfl rfl ?_
          refine k_iload_n C dX5_done_54 3 rfl rfl ?_
          obtain ⟨x6, hx6, h⟩ := bindE h
          refine kcallR_i C (wc := (cells_R_wrong cI cL cZ a_this a_gravel a_kind a_own a_likely a_tape a_holding a_rowLength a_rowOf a_refusals a_old a_ahead a_cost a_may a_rest a_way c_n c_rain c_ear c_many c_seed c_taped c_from c_to c_token c_value c_imaged c_rowOf)) (r := x6) [0, 6] (fun H locs ls hP hD hS hF hz => krunV C (q0 := 0) (ci := 5) (c_R_wrong l D cI cL cZ H.size a_this a_gravel a_kind a_own a_likely a_tape a_holding a_rowLength a_rowOf a_refusals a_old a_ahead a_cost a_may a_rest a_way v1 v2 c_n c_rain c_ear c_many c_seed c_taped c_from c_to c_token c_value c_imaged c_rowOf x6 hx6) (cwV 2 C.2.2.2.2.1 (gV wq_770 wq_771 wq_772 wq_544 wq_769) rfl rfl rfl (by decide +kernel) ⟨(Nat.le_of_ble_eq_true rfl), (Nat.le_of_ble_eq_true rfl)⟩) rfl rfl kEnv_T rfl rfl (Nat.le_of_ble_eq_true rfl) dX5_done_55 hP hD hz) rfl (by decide) ?_
          refine k_iconst C (v := (-1 : Int32)) dX5_done_58 (by decide) ?_
          refine k_icmp_eq C (tgt := 69) dX5_done_59 (by decide) (fun c_59 => ?_) (fun c_59 => ?_)
          · have h := ifT c_59 h
            refine k_aload_n C dX5_done_69 1 rfl rfl ?_
            refine k_iload_n C dX5_done_70 2 rfl rfl ?_
            refine k_iload_n C dX5_done_71 4 rfl rfl ?_
            refine k_iconst C (v := (0 : Int32)) dX5_done_72 (by decide) ?_
            obtain ⟨x7, hx7, h⟩ := bindE h
            refine kcallR_i C (wc := (cells_R_loudOf cI cL cZ a_this a_gravel a_kind a_own a_likely a_tape a_holding a_rowLength a_rowOf a_refusals a_old a_ahead a_cost a_may a_rest a_way c_n c_rain c_ear c_many c_seed c_taped c_from c_to c_token c_value c_imaged c_gravel c_kind c_own c_rowOf)) (r := x7) [0, 1, 2, 3, 6] (fun H locs ls hP hD hS hF hz => krunV C (q0 := 0) (ci := 5) (c_R_loudOf l D cI cL cZ H.size a_this a_gravel a_kind a_own a_likely a_tape a_holding a_rowLength a_rowOf a_refusals a_old a_ahead a_cost a_may a_rest a_way v1 v3 (0 : Int32) c_n c_rain c_ear c_many c_seed c_taped c_from c_to c_token c_value c_imaged c_gravel c_kind c_own c_rowOf x7 hx7) (cwV 3 C.2.2.2.2.1 (gV wq_774 wq_775 wq_776 wq_544 wq_773) rfl rfl rfl (by decide +kernel) ⟨(Nat.le_of_ble_eq_true rfl), (Nat.le_of_ble_eq_true rfl)⟩) rfl rfl kEnv_T rfl rfl (Nat.le_of_ble_eq_true rfl) dX5_done_73 hP hD hz) rfl (by decide) ?_
            refine k_istore C (lv' := [(5, .int x7), (4, .int x5), (0, .ref a_this), (1, .int v1), (2, .int v2), (3, .int v3)]) dX5_done_76 (by decide) rfl ?_
            refine k_iconst C (v := (0 : Int32)) dX5_done_78 (by decide) ?_
            refine k_istore C (lv' := [(6, .int (0 : Int32)), (5, .int x7), (4, .int x5), (0, .ref a_this), (1, .int v1), (2, .int v2), (3, .int v3)]) dX5_done_79 (by decide) rfl ?_
            obtain ⟨x11, hx11, h⟩ := bindE h
            refine k_lv (lv' := [(0, .ref a_this), (1, .int v1), (5, .int x7), (6, .int (0 : Int32))]) [3, 4, 1, 0] rfl ?_
            refine s_R_done_l81 C hx11 ?_
            refine k_iload C dX5_done_126 0 rfl ?_
            obtain rfl := Option.some.inj h
            exact kret_i C rfl dX5_done_128
          · have h := ifF c_59 h
            refine k_aload_n C dX5_done_62 1 rfl rfl ?_
            refine k_bipush C (v := (-5 : Int32)) dX5_done_63 (by decide) ?_
            obtain ⟨x12, hx12, h⟩ := bindE h
            refine kcallU_i C (wc := (cells_R_no cI cL cZ a_this a_gravel a_kind a_own a_likely a_tape a_holding a_rowLength a_rowOf a_refusals a_old a_ahead a_cost a_may a_rest a_way c_n c_rain c_ear c_many c_seed c_taped c_from c_to c_token c_value c_imaged c_refusals)) (w1 := (cells_R_no cI cL cZ a_this a_gravel a_kind a_own a_likely a_tape a_holding a_rowLength a_rowOf a_refusals a_old a_ahead a_cost a_may a_rest a_way c_n c_rain c_ear c_many c_seed c_taped c_from c_to c_token c_value c_imaged x12.2)) (ws' := (cells_R_done cI cL cZ a_this a_gravel a_kind a_own a_likely a_tape a_holding a_rowLength a_rowOf a_refusals a_old a_ahead a_cost a_may a_rest a_way c_n c_rain c_ear c_many c_seed c_taped c_from c_to c_token c_value c_imaged c_gravel c_kind c_own c_holding c_rowLength c_rowOf x12.2)) (r := x12.1) [0, 7] (fun H locs ls hP hD hS hF hz => krunV C (q0 := 0) (ci := 5) (c_R_no l D cI cL cZ H.size a_this a_gravel a_kind a_own a_likely a_tape a_holding a_rowLength a_rowOf a_refusals a_old a_ahead a_cost a_may a_rest a_way (-5 : Int32) c_n c_rain c_ear c_many c_seed c_taped c_from c_to c_token c_value c_imaged c_refusals x12 hx12) (cwV 1 C.2.2.2.2.1 (gV wq_551 wq_552 wq_553 wq_544 wq_550) rfl rfl rfl (by decide +kernel) ⟨(Nat.le_of_ble_eq_true rfl), (Nat.le_of_ble_eq_true rfl)⟩) rfl rfl kEnv_T rfl rfl (Nat.le_of_ble_eq_true rfl) dX5_done_65 hP hD hz) rfl (by decide) rfl rfl ?_
            obtain rfl := Option.some.inj h
            exact kret_i C rfl dX5_done_68
        · have h := ifF c_42 h
          refine k_aload_n C dX5_done_45 1 rfl rfl ?_
          refine k_iload C dX5_done_46 0 rfl ?_
          obtain ⟨x13, hx13, h⟩ := bindE h
          refine kcallU_i C (wc := (cells_R_no cI cL cZ a_this a_gravel a_kind a_own a_likely a_tape a_holding a_rowLength a_rowOf a_refusals a_old a_ahead a_cost a_may a_rest a_way c_n c_rain c_ear c_many c_seed c_taped c_from c_to c_token c_value c_imaged c_refusals)) (w1 := (cells_R_no cI cL cZ a_this a_gravel a_kind a_own a_likely a_tape a_holding a_rowLength a_rowOf a_refusals a_old a_ahead a_cost a_may a_rest a_way c_n c_rain c_ear c_many c_seed c_taped c_from c_to c_token c_value c_imaged x13.2)) (ws' := (cells_R_done cI cL cZ a_this a_gravel a_kind a_own a_likely a_tape a_holding a_rowLength a_rowOf a_refusals a_old a_ahead a_cost a_may a_rest a_way c_n c_rain c_ear c_many c_seed c_taped c_from c_to c_token c_value c_imaged c_gravel c_kind c_own c_holding c_rowLength c_rowOf x13.2)) (r := x13.1) [0, 7] (fun H locs ls hP hD hS hF hz => krunV C (q0 := 0) (ci := 5) (c_R_no l D cI cL cZ H.size a_this a_gravel a_kind a_own a_likely a_tape a_holding a_rowLength a_rowOf a_refusals a_old a_ahead a_cost a_may a_rest a_way x5 c_n c_rain c_ear c_many c_seed c_taped c_from c_to c_token c_value c_imaged c_refusals x13 hx13) (cwV 1 C.2.2.2.2.1 (gV wq_551 wq_552 wq_553 wq_544 wq_550) rfl rfl rfl (by decide +kernel) ⟨(Nat.le_of_ble_eq_true rfl), (Nat.le_of_ble_eq_true rfl)⟩) rfl rfl kEnv_T rfl rfl (Nat.le_of_ble_eq_true rfl) dX5_done_48 hP hD hz) rfl (by decide) rfl rfl ?_
          obtain rfl := Option.some.inj h
          exact kret_i C rfl dX5_done_51
      · have h := ifT c_22 h
        refine k_lv (lv' := [(0, .ref a_this)]) [0] rfl ?_
        exact s_R_done_j25 C h
theorem c_R_done (l : Launch) (D : va_G) (cI : ClassId) (cL : ClassId) (cZ : ClassId) (sz : Nat) (a_this : Nat) (a_gravel : Nat) (a_kind : Nat) (a_own : Nat) (a_likely : Nat) (a_tape : Nat) (a_holding : Nat) (a_rowLength : Nat) (a_rowOf : Nat) (a_refusals : Nat) (a_old : Nat) (a_ahead : Nat) (a_cost : Nat) (a_may : Nat) (a_rest : Nat) (a_way : Nat) (v1 : Int32) (v2 : Int32) (v3 : Int32) (c_n : Int32) (c_rain : Int32) (c_ear : Int32) (c_many : Int32) (c_seed : Int32) (c_taped : Int32) (c_from : Int32) (c_to : Int32) (c_token : Int32) (c_value : Int32) (c_imaged : Int32) (c_gravel : (Nat → Int32)) (c_kind : (Nat → Int32)) (c_own : (Nat → Int32)) (c_holding : (Nat → Int32)) (c_rowLength : (Nat → Int32)) (c_rowOf : (Nat → Int64)) (c_refusals : (Nat → Int32)) (x : (Int32 × (Nat → Int32) × (Nat → Int32))) (h : f_R_done v1 v2 v3 c_n c_rain c_ear c_many c_gravel c_kind c_own c_holding c_rowLength c_rowOf c_refusals = some x) :
    Met l yX5_done (Cond.code yX5_done cX5_done 8 (some .int) :: WS) rm_R_done (kP D (tyG cI cL cZ) kTrue [.ref a_this, .int v1, .int v2, .int v3] sz (cells_R_done cI cL cZ a_this a_gravel a_kind a_own a_likely a_tape a_holding a_rowLength a_rowOf a_refusals a_old a_ahead a_cost a_may a_rest a_way c_n c_rain c_ear c_many c_seed c_taped c_from c_to c_token c_value c_imaged c_gravel c_kind c_own c_holding c_rowLength c_rowOf c_refusals)) (kQi D (va_A (cells_R_done cI cL cZ a_this a_gravel a_kind a_own a_likely a_tape a_holding a_rowLength a_rowOf a_refusals a_old a_ahead a_cost a_may a_rest a_way c_n c_rain c_ear c_many c_seed c_taped c_from c_to c_token c_value c_imaged c_gravel c_kind c_own c_holding c_rowLength c_rowOf c_refusals) sz) (cells_R_done cI cL cZ a_this a_gravel a_kind a_own a_likely a_tape a_holding a_rowLength a_rowOf a_refusals a_old a_ahead a_cost a_may a_rest a_way c_n c_rain c_ear c_many c_seed c_taped c_from c_to c_token c_value c_imaged x.2.1 c_kind c_own c_holding c_rowLength c_rowOf x.2.2) x.1) 0 0 (va_A (cells_R_done cI cL cZ a_this a_gravel a_kind a_own a_likely a_tape a_holding a_rowLength a_rowOf a_refusals a_old a_ahead a_cost a_may a_rest a_way c_n c_rain c_ear c_many c_seed c_taped c_from c_to c_token c_value c_imaged c_gravel c_kind c_own c_holding c_rowLength c_rowOf c_refusals) sz) :=
  kmet (by decide) (Nat.le_of_ble_eq_true rfl) rfl (fun p e s m below meth c C hE => s_R_done C h)
abbrev cells_R_allGravel (cI : ClassId) (cL : ClassId) (cZ : ClassId) (a_this : Nat) (a_gravel : Nat) (a_kind : Nat) (a_own : Nat) (a_likely : Nat) (a_tape : Nat) (a_holding : Nat) (a_rowLength : Nat) (a_rowOf : Nat) (a_refusals : Nat) (a_old : Nat) (a_ahead : Nat) (a_cost : Nat) (a_may : Nat) (a_rest : Nat) (a_way : Nat) (c_n : Int32) (c_rain : Int32) (c_ear : Int32) (c_many : Int32) (c_seed : Int32) (c_taped : Int32) (c_from : Int32) (c_to : Int32) (c_token : Int32) (c_value : Int32) (c_imaged : Int32) (c_gravel : (Nat → Int32)) : va_W := [(a_this, .inr (5, [.int c_n, .ref a_gravel, .int c_rain, .int c_ear, .int c_many, .ref a_kind, .ref a_own, .ref a_likely, .int c_seed, .int c_taped, .ref a_tape, .int c_from, .int c_to, .int c_token, .int c_value, .ref a_holding, .ref a_rowLength, .ref a_rowOf, .ref a_refusals, .int c_imaged, .ref a_old, .ref a_ahead, .ref a_cost, .ref a_may, .ref a_rest, .ref a_way])), (a_gravel, .inl (cI, 36, .inl c_gravel))]
abbrev rm_R_allGravel : Room := { frames := 0, cells := 0, slots := 0, locals := 0 }
set_option maxRecDepth 100000 in
set_option maxHeartbeats 4000000 in
theorem s_R_allGravel_b4 (C : kC p l e rm_R_allGravel s m args below meth c D (tyG cI cL cZ) A 3 cX5_allGravel yX5_allGravel.cls (Cond.code yX5_allGravel cX5_allGravel 3 (some .int) :: WS) (some .int)) {a_this : Nat} {a_gravel : Nat} {a_kind : Nat} {a_own : Nat} {a_likely : Nat} {a_tape : Nat} {a_holding : Nat} {a_rowLength : Nat} {a_rowOf : Nat} {a_refusals : Nat} {a_old : Nat} {a_ahead : Nat} {a_cost : Nat} {a_may : Nat} {a_rest : Nat} {a_way : Nat} {v1 : Int32} {v2 : Int32} {c_n : Int32} {c_rain : Int32} {c_ear : Int32} {c_many : Int32} {c_seed : Int32} {c_taped : Int32} {c_from : Int32} {c_to : Int32} {c_token : Int32} {c_value : Int32} {c_imaged : Int32} {c_gravel : (Nat → Int32)} {x : ((Int32 × Int32) ⊕ Int32)} (h : f_R_allGravel_b4 c_n c_gravel v1 v2 = some x)
    (kc : ∀ s', x = .inl s' → kW p l e rm_R_allGravel s m args below meth c D A 3 (cells_R_allGravel cI cL cZ a_this a_gravel a_kind a_own a_likely a_tape a_holding a_rowLength a_rowOf a_refusals a_old a_ahead a_cost a_may a_rest a_way c_n c_rain c_ear c_many c_seed c_taped c_from c_to c_token c_value c_imaged c_gravel) [(0, .ref a_this), (1, .int s'.1), (2, .int s'.2)] Q 4 [])
    (k0 : ∀ r, x = .inr r → kW p l e rm_R_allGravel s m args below meth c D A 3 (cells_R_allGravel cI cL cZ a_this a_gravel a_kind a_own a_likely a_tape a_holding a_rowLength a_rowOf a_refusals a_old a_ahead a_cost a_may a_rest a_way c_n c_rain c_ear c_many c_seed c_taped c_from c_to c_token c_value c_imaged c_gravel) [(1, .int r)] Q 32 []) :
    kW p l e rm_R_allGravel s m args below meth c D A 3 (cells_R_allGravel cI cL cZ a_this a_gravel a_kind a_own a_likely a_tape a_holding a_rowLength a_rowOf a_refusals a_old a_ahead a_cost a_may a_rest a_way c_n c_rain c_ear c_many c_seed c_taped c_from c_to c_token c_value c_imaged c_gravel) [(0, .ref a_this), (1, .int v1), (2, .int v2)] Q 4 [] := by
  unfold f_R_allGravel_b4 at h
  refine k_iload_n C dX5_allGravel_4 2 rfl rfl ?_
  refine k_aload_n C dX5_allGravel_5 0 rfl rfl ?_
  refine k_get C (C0 := RX5) (T := TX5) (N := 26) (fun w h => List.mem_cons_of_mem _ (us_R w h)) 0 rfl rfl 0 (by decide) (List.mem_cons_of_mem _ wq_545) rfl rfl dX5_allGravel_6 ?_
  refine k_aload_n C dX5_allGravel_9 0 rfl rfl ?_
  refine k_get C (C0 := RX5) (T := TX5) (N := 26) (fun w h => List.mem_cons_of_mem _ (us_R w h)) 0 rfl rfl 0 (by decide) (List.mem_cons_of_mem _ wq_545) rfl rfl dX5_allGravel_10 ?_
  refine k_imul C dX5_allGravel_13 ?_
  refine k_icmp_ge C (tgt := 32) dX5_allGravel_14 (by decide) (fun c_14 => ?_) (fun c_14 => ?_)
  · have h := ifT c_14 h
    refine k_lv (lv' := [(1, .int v1)]) [1] rfl ?_
    exact k0 _ (Option.some.inj h).symm
  · have h := ifF c_14 h
    refine k_iload_n C dX5_allGravel_17 1 rfl rfl ?_
    refine k_aload_n C dX5_allGravel_18 0 rfl rfl ?_
    refine k_get C (C0 := RX5) (T := TX5) (N := 26) (fun w h => List.mem_cons_of_mem _ (us_R w h)) 0 rfl rfl 1 (by decide) (List.mem_cons_of_mem _ wq_571) rfl rfl dX5_allGravel_19 ?_
    refine k_iload_n C dX5_allGravel_22 2 rfl rfl ?_
    obtain ⟨x1, hx1, h⟩ := bindE h
    refine k_iald C 1 0 rfl rfl hx1 dX5_allGravel_23 ?_
    refine k_iadd C dX5_allGravel_24 ?_
    refine k_istore_n C (lv' := [(1, .int (v1 + x1)), (0, .ref a_this), (2, .int v2)]) dX5_allGravel_25 rfl (by decide) rfl ?_
    refine k_iinc C (v := (v2 + (1 : Int32))) (lv' := [(2, .int (v2 + (1 : Int32))), (1, .int (v1 + x1)), (0, .ref a_this)]) dX5_allGravel_26 2 rfl rfl (by decide) rfl ?_
    refine k_goto C (tgt := 4) dX5_allGravel_29 (by decide) ?_
    refine k_lv (lv' := [(0, .ref a_this), (1, .int (v1 + x1)), (2, .int (v2 + (1 : Int32)))]) [2, 1, 0] rfl ?_
    exact kc _ (Option.some.inj h).symm

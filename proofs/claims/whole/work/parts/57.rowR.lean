variable {p : Program} {l : Launch} {e : Env} {s : State} {m : MethodId} {args : Array Value} {below : List Frame} {meth : Method} {c : Code} {D : va_G} {A : Nat → Prop} {cI cL cZ : ClassId} {Q : State → Prop}
set_option maxRecDepth 100000 in
set_option maxHeartbeats 4000000 in
theorem s_R_worst_b19 (C : kC p l e rm_R_worst s m args below meth c D (tyG cI cL cZ) A 4 cX5_worst yX5_worst.cls (Cond.code yX5_worst cX5_worst 4 (some .int) :: WS) (some .int)) {a_this : Nat} {a_gravel : Nat} {a_kind : Nat} {a_own : Nat} {a_likely : Nat} {a_tape : Nat} {a_holding : Nat} {a_rowLength : Nat} {a_rowOf : Nat} {a_refusals : Nat} {a_old : Nat} {a_ahead : Nat} {a_cost : Nat} {a_may : Nat} {a_rest : Nat} {a_way : Nat} {v1 : Int32} {v2 : Int32} {v3 : Int32} {c_n : Int32} {c_rain : Int32} {c_ear : Int32} {c_many : Int32} {c_seed : Int32} {c_taped : Int32} {c_from : Int32} {c_to : Int32} {c_token : Int32} {c_value : Int32} {c_imaged : Int32} {c_gravel : (Nat → Int32)} {c_kind : (Nat → Int32)} {c_own : (Nat → Int32)} {c_refusals : (Nat → Int32)} {x : ((Int32 × Int32) ⊕ Int32)} (h : f_R_worst_b19 v1 c_n c_rain c_gravel c_kind c_own v2 v3 = some x)
    (kc : ∀ s', x = .inl s' → kW p l e rm_R_worst s m args below meth c D A 4 (cells_R_worst cI cL cZ a_this a_gravel a_kind a_own a_likely a_tape a_holding a_rowLength a_rowOf a_refusals a_old a_ahead a_cost a_may a_rest a_way c_n c_rain c_ear c_many c_seed c_taped c_from c_to c_token c_value c_imaged c_gravel c_kind c_own c_refusals) [(0, .ref a_this), (1, .int v1), (2, .int s'.1), (3, .int s'.2)] Q 19 [])
    (k0 : ∀ r, x = .inr r → kW p l e rm_R_worst s m args below meth c D A 4 (cells_R_worst cI cL cZ a_this a_gravel a_kind a_own a_likely a_tape a_holding a_rowLength a_rowOf a_refusals a_old a_ahead a_cost a_may a_rest a_way c_n c_rain c_ear c_many c_seed c_taped c_from c_to c_token c_value c_imaged c_gravel c_kind c_own c_refusals) [(2, .int r)] Q 55 []) :
    kW p l e rm_R_worst s m args below meth c D A 4 (cells_R_worst cI cL cZ a_this a_gravel a_kind a_own a_likely a_tape a_holding a_rowLength a_rowOf a_refusals a_old a_ahead a_cost a_may a_rest a_way c_n c_rain c_ear c_many c_seed c_taped c_from c_to c_token c_value c_imaged c_gravel c_kind c_own c_refusals) [(0, .ref a_this), (1, .int v1), (2, .int v2), (3, .int v3)] Q 19 [] := by
  unfold f_R_worst_b19 at h
  refine k_iload_n C dX5_worst_19 3 rfl rfl ?_
  refine k_aload_n C dX5_worst_20 0 rfl rfl ?_
  refine k_get C (C0 := RX5) (T := TX5) (N := 26) (fun w h => List.mem_cons_of_mem _ (us_R w h)) 0 rfl rfl 0 (by decide) (List.mem_cons_of_mem _ wq_545) rfl rfl dX5_worst_21 ?_
  refine k_aload_n C dX5_worst_24 0 rfl rfl ?_
  refine k_get C (C0 := RX5) (T := TX5) (N := 26) (fun w h => List.mem_cons_of_mem _ (us_R w h)) 0 rfl rfl 0 (by decide) (List.mem_cons_of_mem _ wq_545) rfl rfl dX5_worst_25 ?_
  refine k_imul C dX5_worst_28 ?_
  refine k_icmp_ge C (tgt := 55) dX5_worst_29 (by decide) (fun c_29 => ?_) (fun c_29 => ?_)
  · have h := ifT c_29 h
    refine k_lv (lv' := [(2, .int v2)]) [2] rfl ?_
    exact k0 _ (Option.some.inj h).symm
  · have h := ifF c_29 h
    refine k_aload_n C dX5_worst_32 0 rfl rfl ?_
    refine k_iload_n C dX5_worst_33 1 rfl rfl ?_
    refine k_iload_n C dX5_worst_34 3 rfl rfl ?_
    obtain ⟨x2, hx2, h⟩ := bindE h
    refine kcallR_i C (wc := (cells_R_stepOn cI cL cZ a_this a_gravel a_kind a_own a_likely a_tape a_holding a_rowLength a_rowOf a_refusals a_old a_ahead a_cost a_may a_rest a_way c_n c_rain c_ear c_many c_seed c_taped c_from c_to c_token c_value c_imaged c_gravel c_kind c_own)) (r := x2) [0, 1, 2, 3] (fun H locs ls hP hD hS hF hz => krunV C (q0 := 0) (ci := 5) (c_R_stepOn l D cI cL cZ H.size a_this a_gravel a_kind a_own a_likely a_tape a_holding a_rowLength a_rowOf a_refusals a_old a_ahead a_cost a_may a_rest a_way v1 v3 c_n c_rain c_ear c_many c_seed c_taped c_from c_to c_token c_value c_imaged c_gravel c_kind c_own x2 hx2) (cwV 2 C.2.2.2.2.1 (gV wq_647 wq_648 wq_649 wq_544 wq_646) rfl rfl rfl (by decide +kernel) ⟨(Nat.le_of_ble_eq_true rfl), (Nat.le_of_ble_eq_true rfl)⟩) rfl rfl kEnv_T rfl rfl (Nat.le_of_ble_eq_true rfl) dX5_worst_35 hP hD hz) rfl (by decide) ?_
    refine k_aload_n C dX5_worst_38 0 rfl rfl ?_
    refine k_iload_n C dX5_worst_39 1 rfl rfl ?_
    refine k_iload_n C dX5_worst_40 2 rfl rfl ?_
    obtain ⟨x3, hx3, h⟩ := bindE h
    refine kcallR_i C (wc := (cells_R_stepOn cI cL cZ a_this a_gravel a_kind a_own a_likely a_tape a_holding a_rowLength a_rowOf a_refusals a_old a_ahead a_cost a_may a_rest a_way c_n c_rain c_ear c_many c_seed c_taped c_from c_to c_token c_value c_imaged c_gravel c_kind c_own)) (r := x3) [0, 1, 2, 3] (fun H locs ls hP hD hS hF hz => krunV C (q0 := 0) (ci := 5) (c_R_stepOn l D cI cL cZ H.size a_this a_gravel a_kind a_own a_likely a_tape a_holding a_rowLength a_rowOf a_refusals a_old a_ahead a_cost a_may a_rest a_way v1 v2 c_n c_rain c_ear c_many c_seed c_taped c_from c_to c_token c_value c_imaged c_gravel c_kind c_own x3 hx3) (cwV 2 C.2.2.2.2.1 (gV wq_647 wq_648 wq_649 wq_544 wq_646) rfl rfl rfl (by decide +kernel) ⟨(Nat.le_of_ble_eq_true rfl), (Nat.le_of_ble_eq_true rfl)⟩) rfl rfl kEnv_T rfl rfl (Nat.le_of_ble_eq_true rfl) dX5_worst_41 hP hD hz) rfl (by decide) ?_
    refine k_icmp_le C (tgt := 49) dX5_worst_44 (by decide) (fun c_44 => ?_) (fun c_44 => ?_)
    · have h := ifT c_44 h
      refine k_iinc C (v := (v3 + (1 : Int32))) (lv' := [(3, .int (v3 + (1 : Int32))), (0, .ref a_this), (1, .int v1), (2, .int v2)]) dX5_worst_49 3 rfl rfl (by decide) rfl ?_
      refine k_goto C (tgt := 19) dX5_worst_52 (by decide) ?_
      refine k_lv (lv' := [(0, .ref a_this), (1, .int v1), (2, .int v2), (3, .int (v3 + (1 : Int32)))]) [1, 2, 3, 0] rfl ?_
      exact kc _ (Option.some.inj h).symm
    · have h := ifF c_44 h
      refine k_iload_n C dX5_worst_47 3 rfl rfl ?_
      refine k_istore_n C (lv' := [(2, .int v3), (0, .ref a_this), (1, .int v1), (3, .int v3)]) dX5_worst_48 rfl (by decide) rfl ?_
      refine k_iinc C (v := (v3 + (1 : Int32))) (lv' := [(3, .int (v3 + (1 : Int32))), (2, .int v3), (0, .ref a_this), (1, .int v1)]) dX5_worst_49 3 rfl rfl (by decide) rfl ?_
      refine k_goto C (tgt := 19) dX5_worst_52 (by decide) ?_
      refine k_lv (lv' := [(0, .ref a_this), (1, .int v1), (2, .int v3), (3, .int (v3 + (1 : Int32)))]) [2, 3, 1, 0] rfl ?_
      exact kc _ (Option.some.inj h).symm
set_option maxRecDepth 100000 in
set_option maxHeartbeats 4000000 in
theorem s_R_worst_l19 (C : kC p l e rm_R_worst s m args below meth c D (tyG cI cL cZ) A 4 cX5_worst yX5_worst.cls (Cond.code yX5_worst cX5_worst 4 (some .int) :: WS) (some .int)) {a_this : Nat} {a_gravel : Nat} {a_kind : Nat} {a_own : Nat} {a_likely : Nat} {a_tape : Nat} {a_holding : Nat} {a_rowLength : Nat} {a_rowOf : Nat} {a_refusals : Nat} {a_old : Nat} {a_ahead : Nat} {a_cost : Nat} {a_may : Nat} {a_rest : Nat} {a_way : Nat} {v1 : Int32} {v2 : Int32} {v3 : Int32} {c_n : Int32} {c_rain : Int32} {c_ear : Int32} {c_many : Int32} {c_seed : Int32} {c_taped : Int32} {c_from : Int32} {c_to : Int32} {c_token : Int32} {c_value : Int32} {c_imaged : Int32} {c_gravel : (Nat → Int32)} {c_kind : (Nat → Int32)} {c_own : (Nat → Int32)} {c_refusals : (Nat → Int32)} {x : Int32} (h : f_R_worst_l19 v1 c_n c_rain c_gravel c_kind c_own v2 v3 = some x)
    (k0 : kW p l e rm_R_worst s m args below meth c D A 4 (cells_R_worst cI cL cZ a_this a_gravel a_kind a_own a_likely a_tape a_holding a_rowLength a_rowOf a_refusals a_old a_ahead a_cost a_may a_rest a_way c_n c_rain c_ear c_many c_seed c_taped c_from c_to c_token c_value c_imaged c_gravel c_kind c_own c_refusals) [(2, .int x)] Q 55 []) :
    kW p l e rm_R_worst s m args below meth c D A 4 (cells_R_worst cI cL cZ a_this a_gravel a_kind a_own a_likely a_tape a_holding a_rowLength a_rowOf a_refusals a_old a_ahead a_cost a_may a_rest a_way c_n c_rain c_ear c_many c_seed c_taped c_from c_to c_token c_value c_imaged c_gravel c_kind c_own c_refusals) [(0, .ref a_this), (1, .int v1), (2, .int v2), (3, .int v3)] Q 19 [] := by
  unfold f_R_worst_l19 at h
  exact iter_W (T := fun sg => kW p l e rm_R_worst s m args below meth c D A 4 (cells_R_worst cI cL cZ a_this a_gravel a_kind a_own a_likely a_tape a_holding a_rowLength a_rowOf a_refusals a_old a_ahead a_cost a_may a_rest a_way c_n c_rain c_ear c_many c_seed c_taped c_from c_to c_token c_value c_imaged c_gravel c_kind c_own c_refusals) [(0, .ref a_this), (1, .int v1), (2, .int sg.1), (3, .int sg.2)] Q 19 []) (fun sg y hy hc _ hr => s_R_worst_b19 C hy (fun s' e => hc s' e) (fun r e => by rw [hr r e]; exact k0)) FUEL _ h
set_option maxRecDepth 100000 in
set_option maxHeartbeats 4000000 in
theorem s_R_worst (C : kC p l e rm_R_worst s m args below meth c D (tyG cI cL cZ) A 4 cX5_worst yX5_worst.cls (Cond.code yX5_worst cX5_worst 4 (some .int) :: WS) (some .int)) {a_this : Nat} {a_gravel : Nat} {a_kind : Nat} {a_own : Nat} {a_likely : Nat} {a_tape : Nat} {a_holding : Nat} {a_rowLength : Nat} {a_rowOf : Nat} {a_refusals : Nat} {a_old : Nat} {a_ahead : Nat} {a_cost : Nat} {a_may : Nat} {a_rest : Nat} {a_way : Nat} {v1 : Int32} {c_n : Int32} {c_rain : Int32} {c_ear : Int32} {c_many : Int32} {c_seed : Int32} {c_taped : Int32} {c_from : Int32} {c_to : Int32} {c_token : Int32} {c_value : Int32} {c_imaged : Int32} {c_gravel : (Nat → Int32)} {c_kind : (Nat → Int32)} {c_own : (Nat → Int32)} {c_refusals : (Nat → Int32)} {x : (Int32 × (Nat → Int32))} (h : f_R_worst v1 c_n c_rain c_many c_gravel c_kind c_own c_refusals = some x) :
    kW p l e rm_R_worst s m args below meth c D A 4 (cells_R_worst cI cL cZ a_this a_gravel a_kind a_own a_likely a_tape a_holding a_rowLength a_rowOf a_refusals a_old a_ahead a_cost a_may a_rest a_way c_n c_rain c_ear c_many c_seed c_taped c_from c_to c_token c_value c_imaged c_gravel c_kind c_own c_refusals) [(0, .ref a_this), (1, .int v1)] (MQ below (kQi D A (cells_R_worst cI cL cZ a_this a_gravel a_kind a_own a_likely a_tape a_holding a_rowLength a_rowOf a_refusals a_old a_ahead a_cost a_may a_rest a_way c_n c_rain c_ear c_many c_seed c_taped c_from c_to c_token c_value c_imaged c_gravel c_kind c_own x.2) x.1) args s 0 0 A) 0 [] := by
  unfold f_R_worst at h
  refine k_aload_n C dX5_worst_0 0 rfl rfl ?_
  refine k_iload_n C dX5_worst_1 1 rfl rfl ?_
  obtain ⟨x1, hx1, h⟩ := bindE h
  refine kcallR_i C (wc := (cells_R_isFeet cI cL cZ a_this a_gravel a_kind a_own a_likely a_tape a_holding a_rowLength a_rowOf a_refusals a_old a_ahead a_cost a_may a_rest a_way c_n c_rain c_ear c_many c_seed c_taped c_from c_to c_token c_value c_imaged)) (r := x1) [0] (fun H locs ls hP hD hS hF hz => krunV C (q0 := 0) (ci := 5) (c_R_isFeet l D cI cL cZ H.size a_this a_gravel a_kind a_own a_likely a_tape a_holding a_rowLength a_rowOf a_refusals a_old a_ahead a_cost a_may a_rest a_way v1 c_n c_rain c_ear c_many c_seed c_taped c_from c_to c_token c_value c_imaged x1 hx1) (cwV 1 C.2.2.2.2.1 (gV wq_568 wq_569 wq_570 wq_544 wq_567) rfl rfl rfl (by decide +kernel) ⟨(Nat.le_of_ble_eq_true rfl), (Nat.le_of_ble_eq_true rfl)⟩) rfl rfl kEnv_T rfl rfl (Nat.le_of_ble_eq_true rfl) dX5_worst_2 hP hD hz) rfl (by decide) ?_
  refine k_if_ne C (tgt := 15) dX5_worst_5 (by decide) (fun c_5 => ?_) (fun c_5 => ?_)
  · have h := ifF c_5 h
    refine k_iconst C (v := (0 : Int32)) dX5_worst_15 (by decide) ?_
    refine k_istore_n C (lv' := [(2, .int (0 : Int32)), (0, .ref a_this), (1, .int v1)]) dX5_worst_16 rfl (by decide) rfl ?_
    refine k_iconst C (v := (1 : Int32)) dX5_worst_17 (by decide) ?_
    refine k_istore_n C (lv' := [(3, .int (1 : Int32)), (2, .int (0 : Int32)), (0, .ref a_this), (1, .int v1)]) dX5_worst_18 rfl (by decide) rfl ?_
    obtain ⟨x4, hx4, h⟩ := bindE h
    refine k_lv (lv' := [(0, .ref a_this), (1, .int v1), (2, .int (0 : Int32)), (3, .int (1 : Int32))]) [2, 3, 1, 0] rfl ?_
    refine s_R_worst_l19 C hx4 ?_
    refine k_iload_n C dX5_worst_55 0 rfl rfl ?_
    obtain rfl := Option.some.inj h
    exact kret_i C rfl dX5_worst_56
  · have h := ifT c_5 h
    refine k_aload_n C dX5_worst_8 0 rfl rfl ?_
    refine k_bipush C (v := (-2 : Int32)) dX5_worst_9 (by decide) ?_
    obtain ⟨x5, hx5, h⟩ := bindE h
    refine kcallU_i C (wc := (cells_R_no cI cL cZ a_this a_gravel a_kind a_own a_likely a_tape a_holding a_rowLength a_rowOf a_refusals a_old a_ahead a_cost a_may a_rest a_way c_n c_rain c_ear c_many c_seed c_taped c_from c_to c_token c_value c_imaged c_refusals)) (w1 := (cells_R_no cI cL cZ a_this a_gravel a_kind a_own a_likely a_tape a_holding a_rowLength a_rowOf a_refusals a_old a_ahead a_cost a_may a_rest a_way c_n c_rain c_ear c_many c_seed c_taped c_from c_to c_token c_value c_imaged x5.2)) (ws' := (cells_R_worst cI cL cZ a_this a_gravel a_kind a_own a_likely a_tape a_holding a_rowLength a_rowOf a_refusals a_old a_ahead a_cost a_may a_rest a_way c_n c_rain c_ear c_many c_seed c_taped c_from c_to c_token c_value c_imaged c_gravel c_kind c_own x5.2)) (r := x5.1) [0, 4] (fun H locs ls hP hD hS hF hz => krunV C (q0 := 0) (ci := 5) (c_R_no l D cI cL cZ H.size a_this a_gravel a_kind a_own a_likely a_tape a_holding a_rowLength a_rowOf a_refusals a_old a_ahead a_cost a_may a_rest a_way (-2 : Int32) c_n c_rain c_ear c_many c_seed c_taped c_from c_to c_token c_value c_imaged c_refusals x5 hx5) (cwV 1 C.2.2.2.2.1 (gV wq_551 wq_552 wq_553 wq_544 wq_550) rfl rfl rfl (by decide +kernel) ⟨(Nat.le_of_ble_eq_true rfl), (Nat.le_of_ble_eq_true rfl)⟩) rfl rfl kEnv_T rfl rfl (Nat.le_of_ble_eq_true rfl) dX5_worst_11 hP hD hz) rfl (by decide) rfl rfl ?_
    obtain rfl := Option.some.inj h
    exact kret_i C rfl dX5_worst_14
theorem c_R_worst (l : Launch) (D : va_G) (cI : ClassId) (cL : ClassId) (cZ : ClassId) (sz : Nat) (a_this : Nat) (a_gravel : Nat) (a_kind : Nat) (a_own : Nat) (a_likely : Nat) (a_tape : Nat) (a_holding : Nat) (a_rowLength : Nat) (a_rowOf : Nat) (a_refusals : Nat) (a_old : Nat) (a_ahead : Nat) (a_cost : Nat) (a_may : Nat) (a_rest : Nat) (a_way : Nat) (v1 : Int32) (c_n : Int32) (c_rain : Int32) (c_ear : Int32) (c_many : Int32) (c_seed : Int32) (c_taped : Int32) (c_from : Int32) (c_to : Int32) (c_token : Int32) (c_value : Int32) (c_imaged : Int32) (c_gravel : (Nat → Int32)) (c_kind : (Nat → Int32)) (c_own : (Nat → Int32)) (c_refusals : (Nat → Int32)) (x : (Int32 × (Nat → Int32))) (h : f_R_worst v1 c_n c_rain c_many c_gravel c_kind c_own c_refusals = some x) :
    Met l yX5_worst (Cond.code yX5_worst cX5_worst 4 (some .int) :: WS) rm_R_worst (kP D (tyG cI cL cZ) kTrue [.ref a_this, .int v1] sz (cells_R_worst cI cL cZ a_this a_gravel a_kind a_own a_likely a_tape a_holding a_rowLength a_rowOf a_refusals a_old a_ahead a_cost a_may a_rest a_way c_n c_rain c_ear c_many c_seed c_taped c_from c_to c_token c_value c_imaged c_gravel c_kind c_own c_refusals)) (kQi D (va_A (cells_R_worst cI cL cZ a_this a_gravel a_kind a_own a_likely a_tape a_holding a_rowLength a_rowOf a_refusals a_old a_ahead a_cost a_may a_rest a_way c_n c_rain c_ear c_many c_seed c_taped c_from c_to c_token c_value c_imaged c_gravel c_kind c_own c_refusals) sz) (cells_R_worst cI cL cZ a_this a_gravel a_kind a_own a_likely a_tape a_holding a_rowLength a_rowOf a_refusals a_old a_ahead a_cost a_may a_rest a_way c_n c_rain c_ear c_many c_seed c_taped c_from c_to c_token c_value c_imaged c_gravel c_kind c_own x.2) x.1) 0 0 (va_A (cells_R_worst cI cL cZ a_this a_gravel a_kind a_own a_likely a_tape a_holding a_rowLength a_rowOf a_refusals a_old a_ahead a_cost a_may a_rest a_way c_n c_rain c_ear c_many c_seed c_taped c_from c_to c_token c_value c_imaged c_gravel c_kind c_own c_refusals) sz) :=
  kmet (by decide) (Nat.le_of_ble_eq_true rfl) rfl (fun p e s m below meth c C hE => s_R_worst C h)
abbrev cells_R_ranked (cI : ClassId) (cL : ClassId) (cZ : ClassId) (a_this : Nat) (a_gravel : Nat) (a_kind : Nat) (a_own : Nat) (a_likely : Nat) (a_tape : Nat) (a_holding : Nat) (a_rowLength : Nat) (a_rowOf : Nat) (a_refusals : Nat) (a_old : Nat) (a_ahead : Nat) (a_cost : Nat) (a_may : Nat) (a_rest : Nat) (a_way : Nat) (c_n : Int32) (c_rain : Int32) (c_ear : Int32) (c_many : Int32) (c_seed : Int32) (c_taped : Int32) (c_from : Int32) (c_to : Int32) (c_token : Int32) (c_value : Int32) (c_imaged : Int32) (c_gravel : (Nat → Int32)) (c_kind : (Nat → Int32)) (c_own : (Nat → Int32)) (c_refusals : (Nat → Int32)) (c_cost : (Nat → Int32)) (c_may : (Nat → Int32)) (c_rest : (Nat → Int32)) (c_way : (Nat → Int32)) : va_W := [(a_this, .inr (5, [.int c_n, .ref a_gravel, .int c_rain, .int c_ear, .int c_many, .ref a_kind, .ref a_own, .ref a_likely, .int c_seed, .int c_taped, .ref a_tape, .int c_from, .int c_to, .int c_token, .int c_value, .ref a_holding, .ref a_rowLength, .ref a_rowOf, .ref a_refusals, .int c_imaged, .ref a_old, .ref a_ahead, .ref a_cost, .ref a_may, .ref a_rest, .ref a_way])), (a_gravel, .inl (cI, 36, .inl c_gravel)), (a_kind, .inl (cI, 8, .inl c_kind)), (a_own, .inl (cI, 8, .inl c_own)), (a_refusals, .inl (cI, 7, .inl c_refusals)), (a_cost, .inl (cI, 36, .inl c_cost)), (a_may, .inl (cZ, 36, .inl c_may)), (a_rest, .inl (cI, 36, .inl c_rest)), (a_way, .inl (cI, 6, .inl c_way))]
abbrev rm_R_ranked : Room := { frames := 6, cells := 0, slots := 0, locals := 143 }
set_option maxRecDepth 100000 in
set_option maxHeartbeats 4000000 in
theorem s_R_ranked_b30 (C : kC p l e rm_R_ranked s m args below meth c D (tyG cI cL cZ) A 5 cX5_ranked yX5_ranked.cls (Cond.code yX5_ranked cX5_ranked 5 (some .int) :: WS) (some .int)) {a_this : Nat} {a_gravel : Nat} {a_kind : Nat} {a_own : Nat} {a_likely : Nat} {a_tape : Nat} {a_holding : Nat} {a_rowLength : Nat} {a_rowOf : Nat} {a_refusals : Nat} {a_old : Nat} {a_ahead : Nat} {a_cost : Nat} {a_may : Nat} {a_rest : Nat} {a_way : Nat} {v1 : Int32} {v2 : Int32} {v3 : Int32} {v4 : Int32} {c_n : Int32} {c_rain : Int32} {c_ear : Int32} {c_many : Int32} {c_seed : Int32} {c_taped : Int32} {c_from : Int32} {c_to : Int32} {c_token : Int32} {c_value : Int32} {c_imaged : Int32} {c_gravel : (Nat → Int32)} {c_kind : (Nat → Int32)} {c_own : (Nat → Int32)} {c_refusals : (Nat → Int32)} {c_cost : (Nat → Int32)} {c_may : (Nat → Int32)} {c_rest : (Nat → Int32)} {c_way : (Nat → Int32)} {x : ((Int32 × Int32 × (Nat → Int32) × (Nat → Int32) × (Nat → Int32) × (Nat → Int32)) ⊕ (Int32 × (Nat → Int32) × (Nat → Int32) × (Nat → Int32) × (Nat → Int32)))} (h : f_R_ranked_b30 v2 c_n c_rain c_many c_gravel c_kind c_own v3 v4 c_cost c_may c_rest c_way = some x)
    (kc : ∀ s', x = .inl s' → kW p l e rm_R_ranked s m args below meth c D A 5 (cells_R_ranked cI cL cZ a_this a_gravel a_kind a_own a_likely a_tape a_holding a_rowLength a_rowOf a_refusals a_old a_ahead a_cost a_may a_rest a_way c_n c_rain c_ear c_many c_seed c_taped c_from c_to c_token c_value c_imaged c_gravel c_kind c_own c_refusals s'.2.2.1 s'.2.2.2.1 s'.2.2.2.2.1 s'.2.2.2.2.2) [(0, .ref a_this), (1, .int v1), (2, .int v2), (3, .int s'.1), (4, .int s'.2.1)] Q 30 [])
    (k0 : ∀ r, x = .inr r → kW p l e rm_R_ranked s m args below meth c D A 5 (cells_R_ranked cI cL cZ a_this a_gravel a_kind a_own a_likely a_tape a_holding a_rowLength a_rowOf a_refusals a_old a_ahead a_cost a_may a_rest a_way c_n c_rain c_ear c_many c_seed c_taped c_from c_to c_token c_value c_imaged c_gravel c_kind c_own c_refusals r.2.1 r.2.2.1 r.2.2.2.1 r.2.2.2.2) [(0, .ref a_this), (1, .int v1), (2, .int v2), (3, .int r.1)] Q 82 []) :
    kW p l e rm_R_ranked s m args below meth c D A 5 (cells_R_ranked cI cL cZ a_this a_gravel a_kind a_own a_likely a_tape a_holding a_rowLength a_rowOf a_refusals a_old a_ahead a_cost a_may a_rest a_way c_n c_rain c_ear c_many c_seed c_taped c_from c_to c_token c_value c_imaged c_gravel c_kind c_own c_refusals c_cost c_may c_rest c_way) [(0, .ref a_this), (1, .int v1), (2, .int v2), (3, .int v3), (4, .int v4)] Q 30 [] := by
  unfold f_R_ranked_b30 at h
  refine k_iload C dX5_ranked_30 4 rfl ?_
  refine k_aload_n C dX5_ranked_32 0 rfl rfl ?_
  refine k_get C (C0 := RX5) (T := TX5) (N := 26) (fun w h => List.mem_cons_of_mem _ (us_R w h)) 0 rfl rfl 4 (by decide) (List.mem_cons_of_mem _ wq_540) rfl rfl dX5_ranked_33 ?_
  refine k_icmp_ge C (tgt := 82) dX5_ranked_36 (by decide) (fun c_36 => ?_) (fun c_36 => ?_)
  · have h := ifT c_36 h
    refine k_lv (lv' := [(0, .ref a_this), (1, .int v1), (2, .int v2), (3, .int v3)]) [0, 1, 2, 3] rfl ?_
    exact k0 _ (Option.some.inj h).symm
  · have h := ifF c_36 h
    refine k_aload_n C dX5_ranked_39 0 rfl rfl ?_
    refine k_iload C dX5_ranked_40 4 rfl ?_
    obtain ⟨x2, hx2, h⟩ := bindE h
    refine kcallU_i C (wc := (cells_R_quiet cI cL cZ a_this a_gravel a_kind a_own a_likely a_tape a_holding a_rowLength a_rowOf a_refusals a_old a_ahead a_cost a_may a_rest a_way c_n c_rain c_ear c_many c_seed c_taped c_from c_to c_token c_value c_imaged c_gravel c_kind c_own c_cost c_may c_rest c_way)) (w1 := (cells_R_quiet cI cL cZ a_this a_gravel a_kind a_own a_likely a_tape a_holding a_rowLength a_rowOf a_refusals a_old a_ahead a_cost a_may a_rest a_way c_n c_rain c_ear c_many c_seed c_taped c_from c_to c_token c_value c_imaged c_gravel c_kind c_own x2.2.1 x2.2.2.1 x2.2.2.2.1 x2.2.2.2.2)) (ws' := (cells_R_ranked cI cL cZ a_this a_gravel a_kind a_own a_likely a_tape a_holding a_rowLength a_rowOf a_refusals a_old a_ahead a_cost a_may a_rest a_way c_n c_rain c_ear c_many c_seed c_taped c_from c_to c_token c_value c_imaged c_gravel c_kind c_own c_refusals x2.2.1 x2.2.2.1 x2.2.2.2.1 x2.2.2.2.2)) (r := x2.1) [0, 1, 2, 3, 5, 6, 7, 8] (fun H locs ls hP hD hS hF hz => krunV C (q0 := 0) (ci := 5) (c_R_quiet l D cI cL cZ H.size a_this a_gravel a_kind a_own a_likely a_tape a_holding a_rowLength a_rowOf a_refusals a_old a_ahead a_cost a_may a_rest a_way v4 c_n c_rain c_ear c_many c_seed c_taped c_from c_to c_token c_value c_imaged c_gravel c_kind c_own c_cost c_may c_rest c_way x2 hx2) (cwV 1 C.2.2.2.2.1 (gV wq_677 wq_678 wq_679 wq_544 wq_676) rfl rfl rfl (by decide +kernel) ⟨(Nat.le_of_ble_eq_true rfl), (Nat.le_of_ble_eq_true rfl)⟩) rfl rfl kEnv_T rfl rfl (Nat.le_of_ble_eq_true rfl) dX5_ranked_42 hP hD hz) rfl (by decide) rfl rfl ?_
    refine k_aload_n C dX5_ranked_45 0 rfl rfl ?_
    refine k_iload_n C dX5_ranked_46 2 rfl rfl ?_
    obtain ⟨x3, hx3, h⟩ := bindE h
    refine kcallU_i C (wc := (cells_R_quiet cI cL cZ a_this a_gravel a_kind a_own a_likely a_tape a_holding a_rowLength a_rowOf a_refusals a_old a_ahead a_cost a_may a_rest a_way c_n c_rain c_ear c_many c_seed c_taped c_from c_to c_token c_value c_imaged c_gravel c_kind c_own x2.2.1 x2.2.2.1 x2.2.2.2.1 x2.2.2.2.2)) (w1 := (cells_R_quiet cI cL cZ a_this a_gravel a_kind a_own a_likely a_tape a_holding a_rowLength a_rowOf a_refusals a_old a_ahead a_cost a_may a_rest a_way c_n c_rain c_ear c_many c_seed c_taped c_from c_to c_token c_value c_imaged c_gravel c_kind c_own x3.2.1 x3.2.2.1 x3.2.2.2.1 x3.2.2.2.2)) (ws' := (cells_R_ranked cI cL cZ a_this a_gravel a_kind a_own a_likely a_tape a_holding a_rowLength a_rowOf a_refusals a_old a_ahead a_cost a_may a_rest a_way c_n c_rain c_ear c_many c_seed c_taped c_from c_to c_token c_value c_imaged c_gravel c_kind c_own c_refusals x3.2.1 x3.2.2.1 x3.2.2.2.1 x3.2.2.2.2)) (r := x3.1) [0, 1, 2, 3, 5, 6, 7, 8] (fun H locs ls hP hD hS hF hz => krunV C (q0 := 0) (ci := 5) (c_R_quiet l D cI cL cZ H.size a_this a_gravel a_kind a_own a_likely a_tape a_holding a_rowLength a_rowOf a_refusals a_old a_ahead a_cost a_may a_rest a_way v2 c_n c_rain c_ear c_many c_seed c_taped c_from c_to c_token c_value c_imaged c_gravel c_kind c_own x2.2.1 x2.2.2.1 x2.2.2.2.1 x2.2.2.2.2 x3 hx3) (cwV 1 C.2.2.2.2.1 (gV wq_677 wq_678 wq_679 wq_544 wq_676) rfl rfl rfl (by decide +kernel) ⟨(Nat.le_of_ble_eq_true rfl), (Nat.le_of_ble_eq_true rfl)⟩) rfl rfl kEnv_T rfl rfl (Nat.le_of_ble_eq_true rfl) dX5_ranked_47 hP hD hz) rfl (by decide) rfl rfl ?_
    refine k_icmp_lt C (tgt := 73) dX5_ranked_50 (by decide) (fun c_50 => ?_) (fun c_50 => ?_)
    · have h := ifT c_50 h
      refine k_iinc C (v := (v3 + (1 : Int32))) (lv' := [(3, .int (v3 + (1 : Int32))), (0, .ref a_this), (1, .int v1), (2, .int v2), (4, .int v4)]) dX5_ranked_73 3 rfl rfl (by decide) rfl ?_
      refine k_iinc C (v := (v4 + (1 : Int32))) (lv' := [(4, .int (v4 + (1 : Int32))), (3, .int (v3 + (1 : Int32))), (0, .ref a_this), (1, .int v1), (2, .int v2)]) dX5_ranked_76 4 rfl rfl (by decide) rfl ?_
      refine k_goto C (tgt := 30) dX5_ranked_79 (by decide) ?_
      refine k_lv (lv' := [(0, .ref a_this), (1, .int v1), (2, .int v2), (3, .int (v3 + (1 : Int32))), (4, .int (v4 + (1 : Int32)))]) [2, 3, 4, 1, 0] rfl ?_
      exact kc _ (Option.some.inj h).symm
    · have h := ifF c_50 h
      refine k_aload_n C dX5_ranked_53 0 rfl rfl ?_
      refine k_iload C dX5_ranked_54 4 rfl ?_
      obtain ⟨x4, hx4, h⟩ := bindE h
      refine kcallU_i C (wc := (cells_R_quiet cI cL cZ a_this a_gravel a_kind a_own a_likely a_tape a_holding a_rowLength a_rowOf a_refusals a_old a_ahead a_cost a_may a_rest a_way c_n c_rain c_ear c_many c_seed c_taped c_from c_to c_token c_value c_imaged c_gravel c_kind c_own x3.2.1 x3.2.2.1 x3.2.2.2.1 x3.2.2.2.2)) (w1 := (cells_R_quiet cI cL cZ a_this a_gravel a_kind a_own a_likely a_tape a_holding a_rowLength a_rowOf a_refusals a_old a_ahead a_cost a_may a_rest a_way c_n c_rain c_ear c_many c_seed c_taped c_from c_to c_token c_value c_imaged c_gravel c_kind c_own x4.2.1 x4.2.2.1 x4.2.2.2.1 x4.2.2.2.2)) (ws' := (cells_R_ranked cI cL cZ a_this a_gravel a_kind a_own a_likely a_tape a_holding a_rowLength a_rowOf a_refusals a_old a_ahead a_cost a_may a_rest a_way c_n c_rain c_ear c_many c_seed c_taped c_from c_to c_token c_value c_imaged c_gravel c_kind c_own c_refusals x4.2.1 x4.2.2.1 x4.2.2.2.1 x4.2.2.2.2)) (r := x4.1) [0, 1, 2, 3, 5, 6, 7, 8] (fun H locs ls hP hD hS hF hz => krunV C (q0 := 0) (ci := 5) (c_R_quiet l D cI cL cZ H.size a_this a_gravel a_kind a_own a_likely a_tape a_holding a_rowLength a_rowOf a_refusals a_old a_ahead a_cost a_may a_rest a_way v4 c_n c_rain c_ear c_many c_seed c_taped c_from c_to c_token c_value c_imaged c_gravel c_kind c_own x3.2.1 x3.2.2.1 x3.2.2.2.1 x3.2.2.2.2 x4 hx4) (cwV 1 C.2.2.2.2.1 (gV wq_677 wq_678 wq_679 wq_544 wq_676) rfl rfl rfl (by decide +kernel) ⟨(Nat.le_of_ble_eq_true rfl), (Nat.le_of_ble_eq_true rfl)⟩) rfl rfl kEnv_T rfl rfl (Nat.le_of_ble_eq_true rfl) dX5_ranked_56 hP hD hz) rfl (by decide) rfl rfl ?_
      refine k_aload_n C dX5_ranked_59 0 rfl rfl ?_
      refine k_iload_n C dX5_ranked_60 2 rfl rfl ?_
      obtain ⟨x5, hx5, h⟩ := bindE h
      refine kcallU_i C (wc := (cells_R_quiet cI cL cZ a_this a_gravel a_kind a_own a_likely a_tape a_holding a_rowLength a_rowOf a_refusals a_old a_ahead a_cost a_may a_rest a_way c_n c_rain c_ear c_many c_seed c_taped c_from c_to c_token c_value c_imaged c_gravel c_kind c_own x4.2.1 x4.2.2.1 x4.2.2.2.1 x4.2.2.2.2)) (w1 := (cells_R_quiet cI cL cZ a_this a_gravel a_kind a_own a_likely a_tape a_holding a_rowLength a_rowOf a_refusals a_old a_ahead a_cost a_may a_rest a_way c_n c_rain c_ear c_many c_seed c_taped c_from c_to c_token c_value c_imaged c_gravel c_kind c_own x5.2.1 x5.2.2.1 x5.2.2.2.1 x5.2.2.2.2)) (ws' := (cells_R_ranked cI cL cZ a_this a_gravel a_kind a_own a_likely a_tape a_holding a_rowLength a_rowOf a_refusals a_old a_ahead a_cost a_may a_rest a_way c_n c_rain c_ear c_many c_seed c_taped c_from c_to c_token c_value c_imaged c_gravel c_kind c_own c_refusals x5.2.1 x5.2.2.1 x5.2.2.2.1 x5.2.2.2.2)) (r := x5.1) [0, 1, 2, 3, 5, 6, 7, 8] (fun H locs ls hP hD hS hF hz => krunV C (q0 := 0) (ci := 5) (c_R_quiet l D cI cL cZ H.size a_this a_gravel a_kind a_own a_likely a_tape a_holding a_rowLength a_rowOf a_refusals a_old a_ahead a_cost a_may a_rest a_way v2 c_n c_rain c_ear c_many c_seed c_taped c_from c_to c_token c_value c_imaged c_gravel c_kind c_own x4.2.1 x4.2.2.1 x4.2.2.2.1 x4.2.2.2.2 x5 hx5) (cwV 1 C.2.2.2.2.1 (gV wq_677 wq_678 wq_679 wq_544 wq_676) rfl rfl rfl (by decide +kernel) ⟨(Nat.le_of_ble_eq_true rfl), (Nat.le_of_ble_eq_true rfl)⟩) rfl rfl kEnv_T rfl rfl (Nat.le_of_ble_eq_true rfl) dX5_ranked_61 hP hD hz) rfl (by decide) rfl rfl ?_
      refine k_icmp_ne C (tgt := 76) dX5_ranked_64 (by decide) (fun c_64 => ?_) (fun c_64 => ?_)
      · have h := ifF c_64 h
        refine k_iinc C (v := (v4 + (1 : Int32))) (lv' := [(4, .int (v4 + (1 : Int32))), (0, .ref a_this), (1, .int v1), (2, .int v2), (3, .int v3)]) dX5_ranked_76 4 rfl rfl (by decide) rfl ?_
        refine k_goto C (tgt := 30) dX5_ranked_79 (by decide) ?_
        refine k_lv (lv' := [(0, .ref a_this), (1, .int v1), (2, .int v2), (3, .int v3), (4, .int (v4 + (1 : Int32)))]) [1, 2, 3, 4, 0] rfl ?_
        exact kc _ (Option.some.inj h).symm
      · have h := ifT c_64 h
        refine k_iload C dX5_ranked_67 4 rfl ?_
        refine k_iload_n C dX5_ranked_69 2 rfl rfl ?_
        refine k_icmp_ge C (tgt := 76) dX5_ranked_70 (by decide) (fun c_70 => ?_) (fun c_70 => ?_)
        · have h := ifT c_70 h
          refine k_iinc C (v := (v4 + (1 : Int32))) (lv' := [(4, .int (v4 + (1 : Int32))), (0, .ref a_this), (1, .int v1), (2, .int v2), (3, .int v3)]) dX5_ranked_76 4 rfl rfl (by decide) rfl ?_
          refine k_goto C (tgt := 30) dX5_ranked_79 (by decide) ?_
          refine k_lv (lv' := [(0, .ref a_this), (1, .int v1), (2, .int v2), (3, .int v3), (4, .int (v4 + (1 : Int32)))]) [1, 2, 3, 4, 0] rfl ?_
          exact kc _ (Option.some.inj h).symm
        · have h := ifF c_70 h
          refine k_iinc C (v := (v3 + (1 : Int32))) (lv' := [(3, .int (v3 + (1 : Int32))), (0, .ref a_this), (1, .int v1), (2, .int v2), (4, .int v4)]) dX5_ranked_73 3 rfl rfl (by decide) rfl ?_
          refine k_iinc C (v := (v4 + (1 : Int32))) (lv' := [(4, .int (v4 + (1 : Int32))), (3, .int (v3 + (1 : Int32))), (0, .ref a_this), (1, .int v1), (2, .int v2)]) dX5_ranked_76 4 rfl rfl (by decide) rfl ?_
          refine k_goto C (tgt := 30) dX5_ranked_79 (by decide) ?_
          refine k_lv (lv' := [(0, .ref a_this), (1, .int v1), (2, .int v2), (3, .int (v3 + (1 : Int32))), (4, .int (v4 + (1 : Int32)))]) [2, 3, 4, 1, 0] rfl ?_
          exact kc _ (Option.some.inj h).symm
set_option maxRecDepth 100000 in
set_option maxHeartbeats 4000000 in
theorem s_R_ranked_l30 (C : kC p l e rm_R_ranked s m args below meth c D (tyG cI cL cZ) A 5 cX5_ranked yX5_ranked.cls (Cond.code yX5_ranked cX5_ranked 5 (some .int) :: WS) (some .int)) {a_this : Nat} {a_gravel : Nat} {a_kind : Nat} {a_own : Nat} {a_likely : Nat} {a_tape : Nat} {a_holding : Nat} {a_rowLength : Nat} {a_rowOf : Nat} {a_refusals : Nat} {a_old : Nat} {a_ahead : Nat} {a_cost : Nat} {a_may : Nat} {a_rest : Nat} {a_way : Nat} {v1 : Int32} {v2 : Int32} {v3 : Int32} {v4 : Int32} {c_n : Int32} {c_rain : Int32} {c_ear : Int32} {c_many : Int32} {c_seed : Int32} {c_taped : Int32} {c_from : Int32} {c_to : Int32} {c_token : Int32} {c_value : Int32} {c_imaged : Int32} {c_gravel : (Nat → Int32)} {c_kind : (Nat → Int32)} {c_own : (Nat → Int32)} {c_refusals : (Nat → Int32)} {c_cost : (Nat → Int32)} {c_may : (Nat → Int32)} {c_rest : (Nat → Int32)} {c_way : (Nat → Int32)} {x : (Int32 × (Nat → Int32) × (Nat → Int32) × (Nat → Int32) × (Nat → Int32))} (h : f_R_ranked_l30 v2 c_n c_rain c_many c_gravel c_kind c_own v3 v4 c_cost c_may c_rest c_way = some x)
    (k0 : kW p l e rm_R_ranked s m args below meth c D A 5 (cells_R_ranked cI cL cZ a_this a_gravel a_kind a_own a_likely a_tape a_holding a_rowLength a_rowOf a_refusals a_old a_ahead a_cost a_may a_rest a_way c_n c_rain c_ear c_many c_seed c_taped c_from c_to c_token c_value c_imaged c_gravel c_kind c_own c_refusals x.2.1 x.2.2.1 x.2.2.2.1 x.2.2.2.2) [(0, .ref a_this), (1, .int v1), (2, .int v2), (3, .int x.1)] Q 82 []) :
    kW p l e rm_R_ranked s m args below meth c D A 5 (cells_R_ranked cI cL cZ a_this a_gravel a_kind a_own a_likely a_tape a_holding a_rowLength a_rowOf a_refusals a_old a_ahead a_cost a_may a_rest a_way c_n c_rain c_ear c_many c_seed c_taped c_from c_to c_token c_value c_imaged c_gravel c_kind c_own c_refusals c_cost c_may c_rest c_way) [(0, .ref a_this), (1, .int v1), (2, .int v2), (3, .int v3), (4, .int v4)] Q 30 [] := by
  unfold f_R_ranked_l30 at h
  exact iter_W (T := fun sg => kW p l e rm_R_ranked s m args below meth c D A 5 (cells_R_ranked cI cL cZ a_this a_gravel a_kind a_own a_likely a_tape a_holding a_rowLength a_rowOf a_refusals a_old a_ahead a_cost a_may a_rest a_way c_n c_rain c_ear c_many c_seed c_taped c_from c_to c_token c_value c_imaged c_gravel c_kind c_own c_refusals sg.2.2.1 sg.2.2.2.1 sg.2.2.2.2.1 sg.2.2.2.2.2) [(0, .ref a_this), (1, .int v1), (2, .int v2), (3, .int sg.1), (4, .int sg.2.1)] Q 30 []) (fun sg y hy hc _ hr => s_R_ranked_b30 C hy (fun s' e => hc s' e) (fun r e => by rw [hr r e]; exact k0)) FUEL _ h
set_option maxRecDepth 100000 in
set_option maxHeartbeats 4000000 in
theorem s_R_ranked_b17 (C : kC p l e rm_R_ranked s m args below meth c D (tyG cI cL cZ) A 5 cX5_ranked yX5_ranked.cls (Cond.code yX5_ranked cX5_ranked 5 (some .int) :: WS) (some .int)) {a_this : Nat} {a_gravel : Nat} {a_kind : Nat} {a_own : Nat} {a_likely : Nat} {a_tape : Nat} {a_holding : Nat} {a_rowLength : Nat} {a_rowOf : Nat} {a_refusals : Nat} {a_old : Nat} {a_ahead : Nat} {a_cost : Nat} {a_may : Nat} {a_rest : Nat} {a_way : Nat} {v1 : Int32} {v2 : Int32} {c_n : Int32} {c_rain : Int32} {c_ear : Int32} {c_many : Int32} {c_seed : Int32} {c_taped : Int32} {c_from : Int32} {c_to : Int32} {c_token : Int32} {c_value : Int32} {c_imaged : Int32} {c_gravel : (Nat → Int32)} {c_kind : (Nat → Int32)} {c_own : (Nat → Int32)} {c_refusals : (Nat → Int32)} {c_cost : (Nat → Int32)} {c_may : (Nat → Int32)} {c_rest : (Nat → Int32)} {c_way : (Nat → Int32)} {x : ((Int32 × (Nat → Int32) × (Nat → Int32) × (Nat → Int32) × (Nat → Int32)) ⊕ ((Int32 × (Nat → Int32) × (Nat → Int32) × (Nat → Int32) × (Nat → Int32)) ⊕ ((Nat → Int32) × (Nat → Int32) × (Nat → Int32) × (Nat → Int32))))} (h : f_R_ranked_b17 v1 c_n c_rain c_many c_gravel c_kind c_own v2 c_cost c_may c_rest c_way = some x)
    (kc : ∀ s', x = .inl s' → kW p l e rm_R_ranked s m args below meth c D A 5 (cells_R_ranked cI cL cZ a_this a_gravel a_kind a_own a_likely a_tape a_holding a_rowLength a_rowOf a_refusals a_old a_ahead a_cost a_may a_rest a_way c_n c_rain c_ear c_many c_seed c_taped c_from c_to c_token c_value c_imaged c_gravel c_kind c_own c_refusals s'.2.1 s'.2.2.1 s'.2.2.2.1 s'.2.2.2.2) [(0, .ref a_this), (1, .int v1), (2, .int s'.1)] Q 17 [])
    (k0 : ∀ r, x = .inr (.inl r) → kW p l e rm_R_ranked s m args below meth c D A 5 (cells_R_ranked cI cL cZ a_this a_gravel a_kind a_own a_likely a_tape a_holding a_rowLength a_rowOf a_refusals a_old a_ahead a_cost a_may a_rest a_way c_n c_rain c_ear c_many c_seed c_taped c_from c_to c_token c_value c_imaged c_gravel c_kind c_own c_refusals r.2.1 r.2.2.1 r.2.2.2.1 r.2.2.2.2) [(2, .int r.1)] Q 87 [])
    (k1 : ∀ r, x = .inr (.inr r) → kW p l e rm_R_ranked s m args below meth c D A 5 (cells_R_ranked cI cL cZ a_this a_gravel a_kind a_own a_likely a_tape a_holding a_rowLength a_rowOf a_refusals a_old a_ahead a_cost a_may a_rest a_way c_n c_rain c_ear c_many c_seed c_taped c_from c_to c_token c_value c_imaged c_gravel c_kind c_own c_refusals r.1 r.2.1 r.2.2.1 r.2.2.2) [] Q 95 []) :
    kW p l e rm_R_ranked s m args below meth c D A 5 (cells_R_ranked cI cL cZ a_this a_gravel a_kind a_own a_likely a_tape a_holding a_rowLength a_rowOf a_refusals a_old a_ahead a_cost a_may a_rest a_way c_n c_rain c_ear c_many c_seed c_taped c_from c_to c_token c_value c_imaged c_gravel c_kind c_own c_refusals c_cost c_may c_rest c_way) [(0, .ref a_this), (1, .int v1), (2, .int v2)] Q 17 [] := by
  unfold f_R_ranked_b17 at h
  refine k_iload_n C dX5_ranked_17 2 rfl rfl ?_
  refine k_aload_n C dX5_ranked_18 0 rfl rfl ?_
  refine k_get C (C0 := RX5) (T := TX5) (N := 26) (fun w h => List.mem_cons_of_mem _ (us_R w h)) 0 rfl rfl 4 (by decide) (List.mem_cons_of_mem _ wq_540) rfl rfl dX5_ranked_19 ?_
  refine k_icmp_ge C (tgt := 95) dX5_ranked_22 (by decide) (fun c_22 => ?_) (fun c_22 => ?_)
  · have h := ifT c_22 h
    refine k_lv (lv' := []) [] rfl ?_
    exact k1 _ (Option.some.inj h).symm
  · have h := ifF c_22 h
    refine k_iconst C (v := (0 : Int32)) dX5_ranked_25 (by decide) ?_
    refine k_istore_n C (lv' := [(3, .int (0 : Int32)), (0, .ref a_this), (1, .int v1), (2, .int v2)]) dX5_ranked_26 rfl (by decide) rfl ?_
    refine k_iconst C (v := (0 : Int32)) dX5_ranked_27 (by decide) ?_
    refine k_istore C (lv' := [(4, .int (0 : Int32)), (3, .int (0 : Int32)), (0, .ref a_this), (1, .int v1), (2, .int v2)]) dX5_ranked_28 (by decide) rfl ?_
    obtain ⟨x6, hx6, h⟩ := bindE h
    refine k_lv (lv' := [(0, .ref a_this), (1, .int v1), (2, .int v2), (3, .int (0 : Int32)), (4, .int (0 : Int32))]) [2, 3, 4, 1, 0] rfl ?_
    refine s_R_ranked_l30 C hx6 ?_
    refine k_iload_n C dX5_ranked_82 3 rfl rfl ?_
    refine k_iload_n C dX5_ranked_83 1 rfl rfl ?_
    refine k_icmp_ne C (tgt := 89) dX5_ranked_84 (by decide) (fun c_84 => ?_) (fun c_84 => ?_)
    · have h := ifF c_84 h
      refine k_iinc C (v := (v2 + (1 : Int32))) (lv' := [(2, .int (v2 + (1 : Int32))), (0, .ref a_this), (1, .int v1), (3, .int x6.1)]) dX5_ranked_89 2 rfl rfl (by decide) rfl ?_
      refine k_goto C (tgt := 17) dX5_ranked_92 (by decide) ?_
      refine k_lv (lv' := [(0, .ref a_this), (1, .int v1), (2, .int (v2 + (1 : Int32)))]) [1, 2, 0] rfl ?_
      exact kc _ (Option.some.inj h).symm
    · have h := ifT c_84 h
      refine k_lv (lv' := [(2, .int v2)]) [2] rfl ?_
      exact k0 _ (Option.some.inj h).symm
set_option maxRecDepth 100000 in
set_option maxHeartbeats 4000000 in
theorem s_R_ranked_l17 (C : kC p l e rm_R_ranked s m args below meth c D (tyG cI cL cZ) A 5 cX5_ranked yX5_ranked.cls (Cond.code yX5_ranked cX5_ranked 5 (some .int) :: WS) (some .int)) {a_this : Nat} {a_gravel : Nat} {a_kind : Nat} {a_own : Nat} {a_likely : Nat} {a_tape : Nat} {a_holding : Nat} {a_rowLength : Nat} {a_rowOf : Nat} {a_refusals : Nat} {a_old : Nat} {a_ahead : Nat} {a_cost : Nat} {a_may : Nat} {a_rest : Nat} {a_way : Nat} {v1 : Int32} {v2 : Int32} {c_n : Int32} {c_rain : Int32} {c_ear : Int32} {c_many : Int32} {c_seed : Int32} {c_taped : Int32} {c_from : Int32} {c_to : Int32} {c_token : Int32} {c_value : Int32} {c_imaged : Int32} {c_gravel : (Nat → Int32)} {c_kind : (Nat → Int32)} {c_own : (Nat → Int32)} {c_refusals : (Nat → Int32)} {c_cost : (Nat → Int32)} {c_may : (Nat → Int32)} {c_rest : (Nat → Int32)} {c_way : (Nat → Int32)} {x : ((Int32 × (Nat → Int32) × (Nat → Int32) × (Nat → Int32) × (Nat → Int32)) ⊕ ((Nat → Int32) × (Nat → Int32) × (Nat → Int32) × (Nat → Int32)))} (h : f_R_ranked_l17 v1 c_n c_rain c_many c_gravel c_kind c_own v2 c_cost c_may c_rest c_way = some x)
    (k0 : ∀ r, x = (.inl r) → kW p l e rm_R_ranked s m args below meth c D A 5 (cells_R_ranked cI cL cZ a_this a_gravel a_kind a_own a_likely a_tape a_holding a_rowLength a_rowOf a_refusals a_old a_ahead a_cost a_may a_rest a_way c_n c_rain c_ear c_many c_seed c_taped c_from c_to c_token c_value c_imaged c_gravel c_kind c_own c_refusals r.2.1 r.2.2.1 r.2.2.2.1 r.2.2.2.2) [(2, .int r.1)] Q 87 [])
    (k1 : ∀ r, x = (.inr r) → kW p l e rm_R_ranked s m args below meth c D A 5 (cells_R_ranked cI cL cZ a_this a_gravel a_kind a_own a_likely a_tape a_holding a_rowLength a_rowOf a_refusals a_old a_ahead a_cost a_may a_rest a_way c_n c_rain c_ear c_many c_seed c_taped c_from c_to c_token c_value c_imaged c_gravel c_kind c_own c_refusals r.1 r.2.1 r.2.2.1 r.2.2.2) [] Q 95 []) :
    kW p l e rm_R_ranked s m args below meth c D A 5 (cells_R_ranked cI cL cZ a_this a_gravel a_kind a_own a_likely a_tape a_holding a_rowLength a_rowOf a_refusals a_old a_ahead a_cost a_may a_rest a_way c_n c_rain c_ear c_many c_seed c_taped c_from c_to c_token c_value c_imaged c_gravel c_kind c_own c_refusals c_cost c_may c_rest c_way) [(0, .ref a_this), (1, .int v1), (2, .int v2)] Q 17 [] := by
  unfold f_R_ranked_l17 at h
  exact iter_W (T := fun sg => kW p l e rm_R_ranked s m args below meth c D A 5 (cells_R_ranked cI cL cZ a_this a_gravel a_kind a_own a_likely a_tape a_holding a_rowLength a_rowOf a_refusals a_old a_ahead a_cost a_may a_rest a_way c_n c_rain c_ear c_many c_seed c_taped c_from c_to c_token c_value c_imaged c_gravel c_kind c_own c_refusals sg.2.1 sg.2.2.1 sg.2.2.2.1 sg.2.2.2.2) [(0, .ref a_this), (1, .int v1), (2, .int sg.1)] Q 17 []) (fun sg y hy hc _ hr => s_R_ranked_b17 C hy (fun s' e => hc s' e) (fun r e => k0 r (hr _ e).symm) (fun r e => k1 r (hr _ e).symm)) FUEL _ h
set_option maxRecDepth 100000 in
set_option maxHeartbeats 4000000 in
theorem s_R_ranked (C : kC p l e rm_R_ranked s m args below meth c D (tyG cI cL cZ) A 5 cX5_ranked yX5_ranked.cls (Cond.code yX5_ranked cX5_ranked 5 (some .int) :: WS) (some .int)) {a_this : Nat} {a_gravel : Nat} {a_kind : Nat} {a_own : Nat} {a_likely : Nat} {a_tape : Nat} {a_holding : Nat} {a_rowLength : Nat} {a_rowOf : Nat} {a_refusals : Nat} {a_old : Nat} {a_ahead : Nat} {a_cost : Nat} {a_may : Nat} {a_rest : Nat} {a_way : Nat} {v1 : Int32} {c_n : Int32} {c_rain : Int32} {c_ear : Int32} {c_many : Int32} {c_seed : Int32} {c_taped : Int32} {c_from : Int32} {c_to : Int32} {c_token : Int32} {c_value : Int32} {c_imaged : Int32} {c_gravel : (Nat → Int32)} {c_kind : (Nat → Int32)} {c_own : (Nat → Int32)} {c_refusals : (Nat → Int32)} {c_cost : (Nat → Int32)} {c_may : (Nat → Int32)} {c_rest : (Nat → Int32)} {c_way : (Nat → Int32)} {x : (Int32 × (Nat → Int32) × (Nat → Int32) × (Nat → Int32) × (Nat → Int32) × (Nat → Int32))} (h : f_R_ranked v1 c_n c_rain c_many c_gravel c_kind c_own c_refusals c_cost c_may c_rest c_way = some x) :
    kW p l e rm_R_ranked s m args below meth c D A 5 (cells_R_ranked cI cL cZ a_this a_gravel a_kind a_own a_likely a_tape a_holding a_rowLength a_rowOf a_refusals a_old a_ahead a_cost a_may a_rest a_way c_n c_rain c_ear c_many c_seed c_taped c_from c_to c_token c_value c_imaged c_gravel c_kind c_own c_refusals c_cost c_may c_rest c_way) [(0, .ref a_this), (1, .int v1)] (MQ below (kQi D A (cells_R_ranked cI cL cZ a_this a_gravel a_kind a_own a_likely a_tape a_holding a_rowLength a_rowOf a_refusals a_old a_ahead a_cost a_may a_rest a_way c_n c_rain c_ear c_many c_seed c_taped c_from c_to c_token c_value c_imaged c_gravel c_kind c_own x.2.1 x.2.2.1 x.2.2.2.1 x.2.2.2.2.1 x.2.2.2.2.2) x.1) args s 0 0 A) 0 [] := by
  unfold f_R_ranked at h
  refine k_aload_n C dX5_ranked_0 0 rfl rfl ?_
  refine k_iload_n C dX5_ranked_1 1 rfl rfl ?_
  obtain ⟨x1, hx1, h⟩ := bindE h
  refine kcallR_i C (wc := (cells_R_isFeet cI cL cZ a_this a_gravel a_kind a_own a_likely a_tape a_holding a_rowLength a_rowOf a_refusals a_old a_ahead a_cost a_may a_rest a_way c_n c_rain c_ear c_many c_seed c_taped c_from c_to c_token c_value c_imaged)) (r := x1) [0] (fun H locs ls hP hD hS hF hz => krunV C (q0 := 0) (ci := 5) (c_R_isFeet l D cI cL cZ H.size a_this a_gravel a_kind a_own a_likely a_tape a_holding a_rowLength a_rowOf a_refusals a_old a_ahead a_cost a_may a_rest a_way v1 c_n c_rain c_ear c_many c_seed c_taped c_from c_to c_token c_value c_imaged x1 hx1) (cwV 1 C.2.2.2.2.1 (gV wq_568 wq_569 wq_570 wq_544 wq_567) rfl rfl rfl (by decide +kernel) ⟨(Nat.le_of_ble_eq_true rfl), (Nat.le_of_ble_eq_true rfl)⟩) rfl rfl kEnv_T rfl rfl (Nat.le_of_ble_eq_true rfl) dX5_ranked_2 hP hD hz) rfl (by decide) ?_
  refine k_if_ne C (tgt := 15) dX5_ranked_5 (by decide) (fun c_5 => ?_) (fun c_5 => ?_)
  · have h := ifF c_5 h
    refine k_iconst C (v := (0 : Int32)) dX5_ranked_15 (by decide) ?_
    refine k_istore_n C (lv' := [(2, .int (0 : Int32)), (0, .ref a_this), (1, .int v1)]) dX5_ranked_16 rfl (by decide) rfl ?_
    obtain ⟨x7, hx7, h⟩ := bindE h
    refine k_lv (lv' := [(0, .ref a_this), (1, .int v1), (2, .int (0 : Int32))]) [1, 2, 0] rfl ?_
    refine s_R_ranked_l17 C hx7 ?_ ?_
    · intro x8 ex8
      subst ex8
      have h := sumL h
      refine k_iload_n C dX5_ranked_87 0 rfl rfl ?_
      obtain rfl := Option.some.inj h
      exact kret_i C rfl dX5_ranked_88
    · intro x9 ex9
      subst ex9
      have h := sumR h
      refine k_iconst C (v := (-1 : Int32)) dX5_ranked_95 (by decide) ?_
      obtain rfl := Option.some.inj h
      exact kret_i C rfl dX5_ranked_96
  · have h := ifT c_5 h
    refine k_aload_n C dX5_ranked_8 0 rfl rfl ?_
    refine k_bipush C (v := (-2 : Int32)) dX5_ranked_9 (by decide) ?_
    obtain ⟨x10, hx10, h⟩ := bindE h
    refine kcallU_i C (wc := (cells_R_no cI cL cZ a_this a_gravel a_kind a_own a_likely a_tape a_holding a_rowLength a_rowOf a_refusals a_old a_ahead a_cost a_may a_rest a_way c_n c_rain c_ear c_many c_seed c_taped c_from c_to c_token c_value c_imaged c_refusals)) (w1 := (cells_R_no cI cL cZ a_this a_gravel a_kind a_own a_likely a_tape a_holding a_rowLength a_rowOf a_refusals a_old a_ahead a_cost a_may a_rest a_way c_n c_rain c_ear c_many c_seed c_taped c_from c_to c_token c_value c_imaged x10.2)) (ws' := (cells_R_ranked cI cL cZ a_this a_gravel a_kind a_own a_likely a_tape a_holding a_rowLength a_rowOf a_refusals a_old a_ahead a_cost a_may a_rest a_way c_n c_rain c_ear c_many c_seed c_taped c_from c_to c_token c_value c_imaged c_gravel c_kind c_own x10.2 c_cost c_may c_rest c_way)) (r := x10.1) [0, 4] (fun H locs ls hP hD hS hF hz => krunV C (q0 := 0) (ci := 5) (c_R_no l D cI cL cZ H.size a_this a_gravel a_kind a_own a_likely a_tape a_holding a_rowLength a_rowOf a_refusals a_old a_ahead a_cost a_may a_rest a_way (-2 : Int32) c_n c_rain c_ear c_many c_seed c_taped c_from c_to c_token c_value c_imaged c_refusals x10 hx10) (cwV 1 C.2.2.2.2.1 (gV wq_551 wq_552 wq_553 wq_544 wq_550) rfl rfl rfl (by decide +kernel) ⟨(Nat.le_of_ble_eq_true rfl), (Nat.le_of_ble_eq_true rfl)⟩) rfl rfl kEnv_T rfl rfl (Nat.le_of_ble_eq_true rfl) dX5_ranked_11 hP hD hz) rfl (by decide) rfl rfl ?_
    obtain rfl := Option.some.inj h
    exact kret_i C rfl dX5_ranked_14
theorem c_R_ranked (l : Launch) (D : va_G) (cI : ClassId) (cL : ClassId) (cZ : ClassId) (sz : Nat) (a_this : Nat) (a_gravel : Nat) (a_kind : Nat) (a_own : Nat) (a_likely : Nat) (a_tape : Nat) (a_holding : Nat) (a_rowLength : Nat) (a_rowOf : Nat) (a_refusals : Nat) (a_old : Nat) (a_ahead : Nat) (a_cost : Nat) (a_may : Nat) (a_rest : Nat) (a_way : Nat) (v1 : Int32) (c_n : Int32) (c_rain : Int32) (c_ear : Int32) (c_many : Int32) (c_seed : Int32) (c_taped : Int32) (c_from : Int32) (c_to : Int32) (c_token : Int32) (c_value : Int32) (c_imaged : Int32) (c_gravel : (Nat → Int32)) (c_kind : (Nat → Int32)) (c_own : (Nat → Int32)) (c_refusals : (Nat → Int32)) (c_cost : (Nat → Int32)) (c_may : (Nat → Int32)) (c_rest : (Nat → Int32)) (c_way : (Nat → Int32)) (x : (Int32 × (Nat → Int32) × (Nat → Int32) × (Nat → Int32) × (Nat → Int32) × (Nat → Int32))) (h : f_R_ranked v1 c_n c_rain c_many c_gravel c_kind c_own c_refusals c_cost c_may c_rest c_way = some x) :
    Met l yX5_ranked (Cond.code yX5_ranked cX5_ranked 5 (some .int) :: WS) rm_R_ranked (kP D (tyG cI cL cZ) kTrue [.ref a_this, .int v1] sz (cells_R_ranked cI cL cZ a_this a_gravel a_kind a_own a_likely a_tape a_holding a_rowLength a_rowOf a_refusals a_old a_ahead a_cost a_may a_rest a_way c_n c_rain c_ear c_many c_seed c_taped c_from c_to c_token c_value c_imaged c_gravel c_kind c_own c_refusals c_cost c_may c_rest c_way)) (kQi D (va_A (cells_R_ranked cI cL cZ a_this a_gravel a_kind a_own a_likely a_tape a_holding a_rowLength a_rowOf a_refusals a_old a_ahead a_cost a_may a_rest a_way c_n c_rain c_ear c_many c_seed c_taped c_from c_to c_token c_value c_imaged c_gravel c_kind c_own c_refusals c_cost c_may c_rest c_way) sz) (cells_R_ranked cI cL cZ a_this a_gravel a_kind a_own a_likely a_tape a_holding a_rowLength a_rowOf a_refusals a_old a_ahead a_cost a_may a_rest a_way c_n c_rain c_ear c_many c_seed c_taped c_from c_to c_token c_value c_imaged c_gravel c_kind c_own x.2.1 x.2.2.1 x.2.2.2.1 x.2.2.2.2.1 x.2.2.2.2.2) x.1) 0 0 (va_A (cells_R_ranked cI cL cZ a_this a_gravel a_kind a_own a_likely a_tape a_holding a_rowLength a_rowOf a_refusals a_old a_ahead a_cost a_may a_rest a_way c_n c_rain c_ear c_many c_seed c_taped c_from c_to c_token c_value c_imaged c_gravel c_kind c_own c_refusals c_cost c_may c_rest c_way) sz) :=
  kmet (by decide) (Nat.le_of_ble_eq_true rfl) rfl (fun p e s m below meth c C hE => s_R_ranked C h)
abbrev cells_R_noHeard (cI : ClassId) (cL : ClassId) (cZ : ClassId) (a_this : Nat) (a_gravel : Nat) (a_kind : Nat) (a_own : Nat) (a_likely : Nat) (a_tape : Nat) (a_holding : Nat) (a_rowLength : Nat) (a_rowOf : Nat) (a_refusals : Nat) (a_old : Nat) (a_ahead : Nat) (a_cost : Nat) (a_may : Nat) (a_rest : Nat) (a_way : Nat) (c_n : Int32) (c_rain : Int32) (c_ear : Int32) (c_many : Int32) (c_seed : Int32) (c_taped : Int32) (c_from : Int32) (c_to : Int32) (c_token : Int32) (c_value : Int32) (c_imaged : Int32) (c_holding : (Nat → Int32)) (c_rowLength : (Nat → Int32)) : va_W := [(a_this, .inr (5, [.int c_n, .ref a_gravel, .int c_rain, .int c_ear, .int c_many, .ref a_kind, .ref a_own, .ref a_likely, .int c_seed, .int c_taped, .ref a_tape, .int c_from, .int c_to, .int c_token, .int c_value, .ref a_holding, .ref a_rowLength, .ref a_rowOf, .ref a_refusals, .int c_imaged, .ref a_old, .ref a_ahead, .ref a_cost, .ref a_may, .ref a_rest, .ref a_way])), (a_holding, .inl (cI, 8, .inl c_holding)), (a_rowLength, .inl (cI, 8, .inl c_rowLength))]
abbrev rm_R_noHeard : Room := { frames := 2, cells := 0, slots := 0, locals := 43 }
set_option maxRecDepth 100000 in
set_option maxHeartbeats 4000000 in
theorem s_R_noHeard (C : kC p l e rm_R_noHeard s m args below meth c D (tyG cI cL cZ) A 2 cX5_noHeard yX5_noHeard.cls (Cond.code yX5_noHeard cX5_noHeard 2 (some .int) :: WS) (some .int)) {a_this : Nat} {a_gravel : Nat} {a_kind : Nat} {a_own : Nat} {a_likely : Nat} {a_tape : Nat} {a_holding : Nat} {a_rowLength : Nat} {a_rowOf : Nat} {a_refusals : Nat} {a_old : Nat} {a_ahead : Nat} {a_cost : Nat} {a_may : Nat} {a_rest : Nat} {a_way : Nat} {v1 : Int32} {c_n : Int32} {c_rain : Int32} {c_ear : Int32} {c_many : Int32} {c_seed : Int32} {c_taped : Int32} {c_from : Int32} {c_to : Int32} {c_token : Int32} {c_value : Int32} {c_imaged : Int32} {c_holding : (Nat → Int32)} {c_rowLength : (Nat → Int32)} {x : Int32} (h : f_R_noHeard v1 c_n c_holding c_rowLength = some x) :
    kW p l e rm_R_noHeard s m args below meth c D A 2 (cells_R_noHeard cI cL cZ a_this a_gravel a_kind a_own a_likely a_tape a_holding a_rowLength a_rowOf a_refusals a_old a_ahead a_cost a_may a_rest a_way c_n c_rain c_ear c_many c_seed c_taped c_from c_to c_token c_value c_imaged c_holding c_rowLength) [(0, .ref a_this), (1, .int v1)] (MQ below (kQi D A (cells_R_noHeard cI cL cZ a_this a_gravel a_kind a_own a_likely a_tape a_holding a_rowLength a_rowOf a_refusals a_old a_ahead a_cost a_may a_rest a_way c_n c_rain c_ear c_many c_seed c_taped c_from c_to c_token c_value c_imaged c_holding c_rowLength) x) args s 0 0 A) 0 [] := by
  unfold f_R_noHeard at h
  refine k_aload_n C dX5_noHeard_0 0 rfl rfl ?_
  refine k_iload_n C dX5_noHeard_1 1 rfl rfl ?_
  obtain ⟨x1, hx1, h⟩ := bindE h
  refine kcallR_i C (wc := (cells_R_isRow cI cL cZ a_this a_gravel a_kind a_own a_likely a_tape a_holding a_rowLength a_rowOf a_refusals a_old a_ahead a_cost a_may a_rest a_way c_n c_rain c_ear c_many c_seed c_taped c_from c_to c_token c_value c_imaged c_holding)) (r := x1) [0, 1] (fun H locs ls hP hD hS hF hz => krunV C (q0 := 0) (ci := 5) (c_R_isRow l D cI cL cZ H.size a_this a_gravel a_kind a_own a_likely a_tape a_holding a_rowLength a_rowOf a_refusals a_old a_ahead a_cost a_may a_rest a_way v1 c_n c_rain c_ear c_many c_seed c_taped c_from c_to c_token c_value c_imaged c_holding x1 hx1) (cwV 1 C.2.2.2.2.1 (gV wq_557 wq_558 wq_559 wq_544 wq_556) rfl rfl rfl (by decide +kernel) ⟨(Nat.le_of_ble_eq_true rfl), (Nat.le_of_ble_eq_true rfl)⟩) rfl rfl kEnv_T rfl rfl (Nat.le_of_ble_eq_true rfl) dX5_noHeard_2 hP hD hz) rfl (by decide) ?_
  refine k_if_ne C (tgt := 16) dX5_noHeard_5 (by decide) (fun c_5 => ?_) (fun c_5 => ?_)
  · have h := ifF c_5 h
    refine k_aload_n C dX5_noHeard_16 0 rfl rfl ?_
    refine k_get C (C0 := RX5) (T := TX5) (N := 26) (fun w h => List.mem_cons_of_mem _ (us_R w h)) 0 rfl rfl 16 (by decide) (List.mem_cons_of_mem _ wq_554) rfl rfl dX5_noHeard_17 ?_
    refine k_iload_n C dX5_noHeard_20 1 rfl rfl ?_
    obtain ⟨x2, hx2, h⟩ := bindE h
    refine k_iald C 2 0 rfl rfl hx2 dX5_noHeard_21 ?_
    refine k_aload_n C dX5_noHeard_22 0 rfl rfl ?_
    refine k_get C (C0 := RX5) (T := TX5) (N := 26) (fun w h => List.mem_cons_of_mem _ (us_R w h)) 0 rfl rfl 0 (by decide) (List.mem_cons_of_mem _ wq_545) rfl rfl dX5_noHeard_23 ?_
    refine k_icmp_ge C (tgt := 34) dX5_noHeard_26 (by decide) (fun c_26 => ?_) (fun c_26 => ?_)
    · have h := ifT c_26 h
      refine k_iconst C (v := (0 : Int32)) dX5_noHeard_34 (by decide) ?_
      obtain rfl := Option.some.inj h
      exact kret_i C rfl dX5_noHeard_35
    · have h := ifF c_26 h
      refine k_bipush C (v := (-2 : Int32)) dX5_noHeard_29 (by decide) ?_
      refine k_goto C (tgt := 35) dX5_noHeard_31 (by decide) ?_
      obtain rfl := Option.some.inj h
      exact kret_i C rfl dX5_noHeard_35
  · have h := ifT c_5 h
    refine k_aload_n C dX5_noHeard_8 0 rfl rfl ?_
    refine k_iload_n C dX5_noHeard_9 1 rfl rfl ?_
    obtain ⟨x3, hx3, h⟩ := bindE h
    refine kcallR_i C (wc := (cells_R_noRow cI cL cZ a_this a_gravel a_kind a_own a_likely a_tape a_holding a_rowLength a_rowOf a_refusals a_old a_ahead a_cost a_may a_rest a_way c_n c_rain c_ear c_many c_seed c_taped c_from c_to c_token c_value c_imaged c_holding)) (r := x3) [0, 1] (fun H locs ls hP hD hS hF hz => krunV C (q0 := 0) (ci := 5) (c_R_noRow l D cI cL cZ H.size a_this a_gravel a_kind a_own a_likely a_tape a_holding a_rowLength a_rowOf a_refusals a_old a_ahead a_cost a_may a_rest a_way v1 c_n c_rain c_ear c_many c_seed c_taped c_from c_to c_token c_value c_imaged c_holding x3 hx3) (cwV 1 C.2.2.2.2.1 (gV wq_564 wq_565 wq_566 wq_544 wq_563) rfl rfl rfl (by decide +kernel) ⟨(Nat.le_of_ble_eq_true rfl), (Nat.le_of_ble_eq_true rfl)⟩) rfl rfl kEnv_T rfl rfl (Nat.le_of_ble_eq_true rfl) dX5_noHeard_10 hP hD hz) rfl (by decide) ?_
    refine k_goto C (tgt := 35) dX5_noHeard_13 (by decide) ?_
    obtain rfl := Option.some.inj h
    exact kret_i C rfl dX5_noHeard_35
theorem c_R_noHeard (l : Launch) (D : va_G) (cI : ClassId) (cL : ClassId) (cZ : ClassId) (sz : Nat) (a_this : Nat) (a_gravel : Nat) (a_kind : Nat) (a_own : Nat) (a_likely : Nat) (a_tape : Nat) (a_holding : Nat) (a_rowLength : Nat) (a_rowOf : Nat) (a_refusals : Nat) (a_old : Nat) (a_ahead : Nat) (a_cost : Nat) (a_may : Nat) (a_rest : Nat) (a_way : Nat) (v1 : Int32) (c_n : Int32) (c_rain : Int32) (c_ear : Int32) (c_many : Int32) (c_seed : Int32) (c_taped : Int32) (c_from : Int32) (c_to : Int32) (c_token : Int32) (c_value : Int32) (c_imaged : Int32) (c_holding : (Nat → Int32)) (c_rowLength : (Nat → Int32)) (x : Int32) (h : f_R_noHeard v1 c_n c_holding c_rowLength = some x) :
    Met l yX5_noHeard (Cond.code yX5_noHeard cX5_noHeard 2 (some .int) :: WS) rm_R_noHeard (kP D (tyG cI cL cZ) kTrue [.ref a_this, .int v1] sz (cells_R_noHeard cI cL cZ a_this a_gravel a_kind a_own a_likely a_tape a_holding a_rowLength a_rowOf a_refusals a_old a_ahead a_cost a_may a_rest a_way c_n c_rain c_ear c_many c_seed c_taped c_from c_to c_token c_value c_imaged c_holding c_rowLength)) (kQi D (va_A (cells_R_noHeard cI cL cZ a_this a_gravel a_kind a_own a_likely a_tape a_holding a_rowLength a_rowOf a_refusals a_old a_ahead a_cost a_may a_rest a_way c_n c_rain c_ear c_many c_seed c_taped c_from c_to c_token c_value c_imaged c_holding c_rowLength) sz) (cells_R_noHeard cI cL cZ a_this a_gravel a_kind a_own a_likely a_tape a_holding a_rowLength a_rowOf a_refusals a_old a_ahead a_cost a_may a_rest a_way c_n c_rain c_ear c_many c_seed c_taped c_from c_to c_token c_value c_imaged c_holding c_rowLength) x) 0 0 (va_A (cells_R_noHeard cI cL cZ a_this a_gravel a_kind a_own a_likely a_tape a_holding a_rowLength a_rowOf a_refusals a_old a_ahead a_cost a_may a_rest a_way c_n c_rain c_ear c_many c_seed c_taped c_from c_to c_token c_value c_imaged c_holding c_rowLength) sz) :=
  kmet (by decide) (Nat.le_of_ble_eq_true rfl) rfl (fun p e s m below meth c C hE => s_R_noHeard C h)
abbrev cells_R_toldAt (cI : ClassId) (cL : ClassId) (cZ : ClassId) (a_this : Nat) (a_gravel : Nat) (a_kind : Nat) (a_own : Nat) (a_likely : Nat) (a_tape : Nat) (a_holding : Nat) (a_rowLength : Nat) (a_rowOf : Nat) (a_refusals : Nat) (a_old : Nat) (a_ahead : Nat) (a_cost : Nat) (a_may : Nat) (a_rest : Nat) (a_way : Nat) (c_n : Int32) (c_rain : Int32) (c_ear : Int32) (c_many : Int32) (c_seed : Int32) (c_taped : Int32) (c_from : Int32) (c_to : Int32) (c_token : Int32) (c_value : Int32) (c_imaged : Int32) (c_rowOf : (Nat → Int64)) : va_W := [(a_this, .inr (5, [.int c_n, .ref a_gravel, .int c_rain, .int c_ear, .int c_many, .ref a_kind, .ref a_own, .ref a_likely, .int c_seed, .int c_taped, .ref a_tape, .int c_from, .int c_to, .int c_token, .int c_value, .ref a_holding, .ref a_rowLength, .ref a_rowOf, .ref a_refusals, .int c_imaged, .ref a_old, .ref a_ahead, .ref a_cost, .ref a_may, .ref a_rest, .ref a_way])), (a_rowOf, .inl (cL, 320, .inr (.inl c_rowOf)))]
abbrev rm_R_toldAt : Room := { frames := 0, cells := 0, slots := 0, locals := 0 }
set_option maxRecDepth 100000 in
set_option maxHeartbeats 4000000 in
theorem s_R_toldAt (C : kC p l e rm_R_toldAt s m args below meth c D (tyG cI cL cZ) A 3 cX5_toldAt yX5_toldAt.cls (Cond.code yX5_toldAt cX5_toldAt 3 (some .long) :: WS) (some .long)) {a_this : Nat} {a_gravel : Nat} {a_kind : Nat} {a_own : Nat} {a_likely : Nat} {a_tape : Nat} {a_holding : Nat} {a_rowLength : Nat} {a_rowOf : Nat} {a_refusals : Nat} {a_old : Nat} {a_ahead : Nat} {a_cost : Nat} {a_may : Nat} {a_rest : Nat} {a_way : Nat} {v1 : Int32} {v2 : Int32} {c_n : Int32} {c_rain : Int32} {c_ear : Int32} {c_many : Int32} {c_seed : Int32} {c_taped : Int32} {c_from : Int32} {c_to : Int32} {c_token : Int32} {c_value : Int32} {c_imaged : Int32} {c_rowOf : (Nat → Int64)} {x : Int64} (h : f_R_toldAt v1 v2 c_rowOf = some x) :
    kW p l e rm_R_toldAt s m args below meth c D A 3 (cells_R_toldAt cI cL cZ a_this a_gravel a_kind a_own a_likely a_tape a_holding a_rowLength a_rowOf a_refusals a_old a_ahead a_cost a_may a_rest a_way c_n c_rain c_ear c_many c_seed c_taped c_from c_to c_token c_value c_imaged c_rowOf) [(0, .ref a_this), (1, .int v1), (2, .int v2)] (MQ below (kQl D A (cells_R_toldAt cI cL cZ a_this a_gravel a_kind a_own a_likely a_tape a_holding a_rowLength a_rowOf a_refusals a_old a_ahead a_cost a_may a_rest a_way c_n c_rain c_ear c_many c_seed c_taped c_from c_to c_token c_value c_imaged c_rowOf) x) args s 0 0 A) 0 [] := by
  unfold f_R_toldAt at h
  refine k_aload_n C dX5_toldAt_0 0 rfl rfl ?_
  refine k_get C (C0 := RX5) (T := TX5) (N := 26) (fun w h => List.mem_cons_of_mem _ (us_R w h)) 0 rfl rfl 17 (by decide) (List.mem_cons_of_mem _ wq_555) rfl rfl dX5_toldAt_1 ?_
  refine k_bipush C (v := (40 : Int32)) dX5_toldAt_4 (by decide) ?_
  refine k_iload_n C dX5_toldAt_6 1 rfl rfl ?_
  refine k_imul C dX5_toldAt_7 ?_
  refine k_iload_n C dX5_toldAt_8 2 rfl rfl ?_
  refine k_iadd C dX5_toldAt_9 ?_
  obtain ⟨x1, hx1, h⟩ := bindE h
  refine k_lald C 1 1 rfl rfl hx1 dX5_toldAt_10 ?_
  obtain rfl := Option.some.inj h
  exact kret_l C rfl dX5_toldAt_11
theorem c_R_toldAt (l : Launch) (D : va_G) (cI : ClassId) (cL : ClassId) (cZ : ClassId) (sz : Nat) (a_this : Nat) (a_gravel : Nat) (a_kind : Nat) (a_own : Nat) (a_likely : Nat) (a_tape : Nat) (a_holding : Nat) (a_rowLength : Nat) (a_rowOf : Nat) (a_refusals : Nat) (a_old : Nat) (a_ahead : Nat) (a_cost : Nat) (a_may : Nat) (a_rest : Nat) (a_way : Nat) (v1 : Int32) (v2 : Int32) (c_n : Int32) (c_rain : Int32) (c_ear : Int32) (c_many : Int32) (c_seed : Int32) (c_taped : Int32) (c_from : Int32) (c_to : Int32) (c_token : Int32) (c_value : Int32) (c_imaged : Int32) (c_rowOf : (Nat → Int64)) (x : Int64) (h : f_R_toldAt v1 v2 c_rowOf = some x) :
    Met l yX5_toldAt (Cond.code yX5_toldAt cX5_toldAt 3 (some .long) :: WS) rm_R_toldAt (kP D (tyG cI cL cZ) kTrue [.ref a_this, .int v1, .int v2] sz (cells_R_toldAt cI cL cZ a_this a_gravel a_kind a_own a_likely a_tape a_holding a_rowLength a_rowOf a_refusals a_old a_ahead a_cost a_may a_rest a_way c_n c_rain c_ear c_many c_seed c_taped c_from c_to c_token c_value c_imaged c_rowOf)) (kQl D (va_A (cells_R_toldAt cI cL cZ a_this a_gravel a_kind a_own a_likely a_tape a_holding a_rowLength a_rowOf a_refusals a_old a_ahead a_cost a_may a_rest a_way c_n c_rain c_ear c_many c_seed c_taped c_from c_to c_token c_value c_imaged c_rowOf) sz) (cells_R_toldAt cI cL cZ a_this a_gravel a_kind a_own a_likely a_tape a_holding a_rowLength a_rowOf a_refusals a_old a_ahead a_cost a_may a_rest a_way c_n c_rain c_ear c_many c_seed c_taped c_from c_to c_token c_value c_imaged c_rowOf) x) 0 0 (va_A (cells_R_toldAt cI cL cZ a_this a_gravel a_kind a_own a_likely a_tape a_holding a_rowLength a_rowOf a_refusals a_old a_ahead a_cost a_may a_rest a_way c_n c_rain c_ear c_many c_seed c_taped c_from c_to c_token c_value c_imaged c_rowOf) sz) :=
  kmet (by decide) (Nat.le_of_ble_eq_true rfl) rfl (fun p e s m below meth c C hE => s_R_toldAt C h)
abbrev cells_R_fits (cI : ClassId) (cL : ClassId) (cZ : ClassId) (a_this : Nat) (a_gravel : Nat) (a_kind : Nat) (a_own : Nat) (a_likely : Nat) (a_tape : Nat) (a_holding : Nat) (a_rowLength : Nat) (a_rowOf : Nat) (a_refusals : Nat) (a_old : Nat) (a_ahead : Nat) (a_cost : Nat) (a_may : Nat) (a_rest : Nat) (a_way : Nat) (c_n : Int32) (c_rain : Int32) (c_ear : Int32) (c_many : Int32) (c_seed : Int32) (c_taped : Int32) (c_from : Int32) (c_to : Int32) (c_token : Int32) (c_value : Int32) (c_imaged : Int32) (c_gravel : (Nat → Int32)) (c_kind : (Nat → Int32)) (c_own : (Nat → Int32)) (c_rowOf : (Nat → Int64)) : va_W := [(a_this, .inr (5, [.int c_n, .ref a_gravel, .int c_rain, .int c_ear, .int c_many, .ref a_kind, .ref a_own, .ref a_likely, .int c_seed, .int c_taped, .ref a_tape, .int c_from, .int c_to, .int c_token, .int c_value, .ref a_holding, .ref a_rowLength, .ref a_rowOf, .ref a_refusals, .int c_imaged, .ref a_old, .ref a_ahead, .ref a_cost, .ref a_may, .ref a_rest, .ref a_way])), (a_gravel, .inl (cI, 36, .inl c_gravel)), (a_kind, .inl (cI, 8, .inl c_kind)), (a_own, .inl (cI, 8, .inl c_own)), (a_rowOf, .inl (cL, 320, .inr (.inl c_rowOf)))]
abbrev rm_R_fits : Room := { frames := 3, cells := 0, slots := 0, locals := 78 }
set_option maxRecDepth 100000 in
set_option maxHeartbeats 4000000 in
theorem s_R_fits_b3 (C : kC p l e rm_R_fits s m args below meth c D (tyG cI cL cZ) A 5 cX5_fits yX5_fits.cls (Cond.code yX5_fits cX5_fits 5 (some .int) :: WS) (some .int)) {a_this : Nat} {a_gravel : Nat} {a_kind : Nat} {a_own : Nat} {a_likely : Nat} {a_tape : Nat} {a_holding : Nat} {a_rowLength : Nat} {a_rowOf : Nat} {a_refusals : Nat} {a_old : Nat} {a_ahead : Nat} {a_cost : Nat} {a_may : Nat} {a_rest : Nat} {a_way : Nat} {v1 : Int32} {v2 : Int32} {v3 : Int32} {v4 : Int32} {c_n : Int32} {c_rain : Int32} {c_ear : Int32} {c_many : Int32} {c_seed : Int32} {c_taped : Int32} {c_from : Int32} {c_to : Int32} {c_token : Int32} {c_value : Int32} {c_imaged : Int32} {c_gravel : (Nat → Int32)} {c_kind : (Nat → Int32)} {c_own : (Nat → Int32)} {c_rowOf : (Nat → Int64)} {x : (Int32 ⊕ Int32)} (h : f_R_fits_b3 v1 v2 v3 c_n c_rain c_gravel c_kind c_own c_rowOf v4 = some x)
    (kc : ∀ s', x = .inl s' → kW p l e rm_R_fits s m args below meth c D A 5 (cells_R_fits cI cL cZ a_this a_gravel a_kind a_own a_likely a_tape a_holding a_rowLength a_rowOf a_refusals a_old a_ahead a_cost a_may a_rest a_way c_n c_rain c_ear c_many c_seed c_taped c_from c_to c_token c_value c_imaged c_gravel c_kind c_own c_rowOf) [(0, .ref a_this), (1, .int v1), (2, .int v2), (3, .int v3), (4, .int s')] Q 3 [])
    (k0 : ∀ r, x = .inr r → kW p l e rm_R_fits s m args below meth c D A 5 (cells_R_fits cI cL cZ a_this a_gravel a_kind a_own a_likely a_tape a_holding a_rowLength a_rowOf a_refusals a_old a_ahead a_cost a_may a_rest a_way c_n c_rain c_ear c_many c_seed c_taped c_from c_to c_token c_value c_imaged c_gravel c_kind c_own c_rowOf) [(4, .int r)] Q 46 []) :
    kW p l e rm_R_fits s m args below meth c D A 5 (cells_R_fits cI cL cZ a_this a_gravel a_kind a_own a_likely a_tape a_holding a_rowLength a_rowOf a_refusals a_old a_ahead a_cost a_may a_rest a_way c_n c_rain c_ear c_many c_seed c_taped c_from c_to c_token c_value c_imaged c_gravel c_kind c_own c_rowOf) [(0, .ref a_this), (1, .int v1), (2, .int v2), (3, .int v3), (4, .int v4)] Q 3 [] := by
  unfold f_R_fits_b3 at h
  refine k_iload C dX5_fits_3 4 rfl ?_
  refine k_aload_n C dX5_fits_5 0 rfl rfl ?_
  refine k_get C (C0 := RX5) (T := TX5) (N := 26) (fun w h => List.mem_cons_of_mem _ (us_R w h)) 0 rfl rfl 0 (by decide) (List.mem_cons_of_mem _ wq_545) rfl rfl dX5_fits_6 ?_
  refine k_icmp_ge C (tgt := 46) dX5_fits_9 (by decide) (fun c_9 => ?_) (fun c_9 => ?_)
  · have h := ifT c_9 h
    refine k_lv (lv' := [(4, .int v4)]) [4] rfl ?_
    exact k0 _ (Option.some.inj h).symm
  · have h := ifF c_9 h
    refine k_aload_n C dX5_fits_12 0 rfl rfl ?_
    refine k_iload_n C dX5_fits_13 1 rfl rfl ?_
    refine k_iload C dX5_fits_14 4 rfl ?_
    obtain ⟨x1, hx1, h⟩ := bindE h
    refine kcallR_l C (wc := (cells_R_toldAt cI cL cZ a_this a_gravel a_kind a_own a_likely a_tape a_holding a_rowLength a_rowOf a_refusals a_old a_ahead a_cost a_may a_rest a_way c_n c_rain c_ear c_many c_seed c_taped c_from c_to c_token c_value c_imaged c_rowOf)) (r := x1) [0, 4] (fun H locs ls hP hD hS hF hz => krunV C (q0 := 0) (ci := 5) (c_R_toldAt l D cI cL cZ H.size a_this a_gravel a_kind a_own a_likely a_tape a_holding a_rowLength a_rowOf a_refusals a_old a_ahead a_cost a_may a_rest a_way v1 v4 c_n c_rain c_ear c_many c_seed c_taped c_from c_to c_token c_value c_imaged c_rowOf x1 hx1) (cwV 2 C.2.2.2.2.1 (gV wq_734 wq_735 wq_736 wq_544 wq_733) rfl rfl rfl (by decide +kernel) ⟨(Nat.le_of_ble_eq_true rfl), (Nat.le_of_ble_eq_true rfl)⟩) rfl rfl kEnv_T rfl rfl (Nat.le_of_ble_eq_true rfl) dX5_fits_16 hP hD hz) rfl (by decide) ?_
    refine k_aload_n C dX5_fits_19 0 rfl rfl ?_
    refine k_iload_n C dX5_fits_20 2 rfl rfl ?_
    refine k_iload C dX5_fits_21 4 rfl ?_
    refine k_aload_n C dX5_fits_23 0 rfl rfl ?_
    refine k_get C (C0 := RX5) (T := TX5) (N := 26) (fun w h => List.mem_cons_of_mem _ (us_R w h)) 0 rfl rfl 0 (by decide) (List.mem_cons_of_mem _ wq_545) rfl rfl dX5_fits_24 ?_
    refine k_imul C dX5_fits_27 ?_
    refine k_iload_n C dX5_fits_28 3 rfl rfl ?_
    refine k_iadd C dX5_fits_29 ?_
    refine k_iload C dX5_fits_30 4 rfl ?_
    obtain ⟨x2, hx2, h⟩ := bindE h
    refine kcallR_i C (wc := (cells_R_crunches cI cL cZ a_this a_gravel a_kind a_own a_likely a_tape a_holding a_rowLength a_rowOf a_refusals a_old a_ahead a_cost a_may a_rest a_way c_n c_rain c_ear c_many c_seed c_taped c_from c_to c_token c_value c_imaged c_gravel c_kind c_own)) (r := x2) [0, 1, 2, 3] (fun H locs ls hP hD hS hF hz => krunV C (q0 := 0) (ci := 5) (c_R_crunches l D cI cL cZ H.size a_this a_gravel a_kind a_own a_likely a_tape a_holding a_rowLength a_rowOf a_refusals a_old a_ahead a_cost a_may a_rest a_way v2 ((v4 * c_n) + v3) v4 c_n c_rain c_ear c_many c_seed c_taped c_from c_to c_token c_value c_imaged c_gravel c_kind c_own x2 hx2) (cwV 3 C.2.2.2.2.1 (gV wq_584 wq_585 wq_586 wq_544 wq_583) rfl rfl rfl (by decide +kernel) ⟨(Nat.le_of_ble_eq_true rfl), (Nat.le_of_ble_eq_true rfl)⟩) rfl rfl kEnv_T rfl rfl (Nat.le_of_ble_eq_true rfl) dX5_fits_32 hP hD hz) rfl (by decide) ?_
    refine k_i2l C dX5_fits_35 ?_
    refine k_lcmp C dX5_fits_36 ?_
    refine k_if_ne C (tgt := 46) dX5_fits_37 (by decide) (fun c_37 => ?_) (fun c_37 => ?_)
    · have h := ifF c_37 h
      refine k_lv (lv' := [(4, .int v4)]) [4] rfl ?_
      exact k0 _ (Option.some.inj h).symm
    · have h := ifT c_37 h
      refine k_iinc C (v := (v4 + (1 : Int32))) (lv' := [(4, .int (v4 + (1 : Int32))), (0, .ref a_this), (1, .int v1), (2, .int v2), (3, .int v3)]) dX5_fits_40 4 rfl rfl (by decide) rfl ?_
      refine k_goto C (tgt := 3) dX5_fits_43 (by decide) ?_
      refine k_lv (lv' := [(0, .ref a_this), (1, .int v1), (2, .int v2), (3, .int v3), (4, .int (v4 + (1 : Int32)))]) [1, 2, 3, 4, 0] rfl ?_
      exact kc _ (Option.some.inj h).symm
set_option maxRecDepth 100000 in
set_option maxHeartbeats 4000000 in
theorem s_R_fits_l3 (C : kC p l e rm_R_fits s m args below meth c D (tyG cI cL cZ) A 5 cX5_fits yX5_fits.cls (Cond.code yX5_fits cX5_fits 5 (some .int) :: WS) (some .int)) {a_this : Nat} {a_gravel : Nat} {a_kind : Nat} {a_own : Nat} {a_likely : Nat} {a_tape : Nat} {a_holding : Nat} {a_rowLength : Nat} {a_rowOf : Nat} {a_refusals : Nat} {a_old : Nat} {a_ahead : Nat} {a_cost : Nat} {a_may : Nat} {a_rest : Nat} {a_way : Nat} {v1 : Int32} {v2 : Int32} {v3 : Int32} {v4 : Int32} {c_n : Int32} {c_rain : Int32} {c_ear : Int32} {c_many : Int32} {c_seed : Int32} {c_taped : Int32} {c_from : Int32} {c_to : Int32} {c_token : Int32} {c_value : Int32} {c_imaged : Int32} {c_gravel : (Nat → Int32)} {c_kind : (Nat → Int32)} {c_own : (Nat → Int32)} {c_rowOf : (Nat → Int64)} {x : Int32} (h : f_R_fits_l3 v1 v2 v3 c_n c_rain c_gravel c_kind c_own c_rowOf v4 = some x)
    (k0 : kW p l e rm_R_fits s m args below meth c D A 5 (cells_R_fits cI cL cZ a_this a_gravel a_kind a_own a_likely a_tape a_holding a_rowLength a_rowOf a_refusals a_old a_ahead a_cost a_may a_rest a_way c_n c_rain c_ear c_many c_seed c_taped c_from c_to c_token c_value c_imaged c_gravel c_kind c_own c_rowOf) [(4, .int x)] Q 46 []) :
    kW p l e rm_R_fits s m args below meth c D A 5 (cells_R_fits cI cL cZ a_this a_gravel a_kind a_own a_likely a_tape a_holding a_rowLength a_rowOf a_refusals a_old a_ahead a_cost a_may a_rest a_way c_n c_rain c_ear c_many c_seed c_taped c_from c_to c_token c_value c_imaged c_gravel c_kind c_own c_rowOf) [(0, .ref a_this), (1, .int v1), (2, .int v2), (3, .int v3), (4, .int v4)] Q 3 [] := by
  unfold f_R_fits_l3 at h
  exact iter_W (T := fun sg => kW p l e rm_R_fits s m args below meth c D A 5 (cells_R_fits cI cL cZ a_this a_gravel a_kind a_own a_likely a_tape a_holding a_rowLength a_rowOf a_refusals a_old a_ahead a_cost a_may a_rest a_way c_n c_rain c_ear c_many c_seed c_taped c_from c_to c_token c_value c_imaged c_gravel c_kind c_own c_rowOf) [(0, .ref a_this), (1, .int v1), (2, .int v2), (3, .int v3), (4, .int sg)] Q 3 []) (fun sg y hy hc _ hr => s_R_fits_b3 C hy (fun s' e => hc s' e) (fun r e => by rw [hr r e]; exact k0)) FUEL _ h
set_option maxRecDepth 100000 in
set_option maxHeartbeats 4000000 in
theorem s_R_fits (C : kC p l e rm_R_fits s m args below meth c D (tyG cI cL cZ) A 5 cX5_fits yX5_fits.cls (Cond.code yX5_fits cX5_fits 5 (some .int) :: WS) (some .int)) {a_this : Nat} {a_gravel : Nat} {a_kind : Nat} {a_own : Nat} {a_likely : Nat} {a_tape : Nat} {a_holding : Nat} {a_rowLength : Nat} {a_rowOf : Nat} {a_refusals : Nat} {a_old : Nat} {a_ahead : Nat} {a_cost : Nat} {a_may : Nat} {a_rest : Nat} {a_way : Nat} {v1 : Int32} {v2 : Int32} {v3 : Int32} {c_n : Int32} {c_rain : Int32} {c_ear : Int32} {c_many : Int32} {c_seed : Int32} {c_taped : Int32} {c_from : Int32} {c_to : Int32} {c_token : Int32} {c_value : Int32} {c_imaged : Int32} {c_gravel : (Nat → Int32)} {c_kind : (Nat → Int32)} {c_own : (Nat → Int32)} {c_rowOf : (Nat → Int64)} {x : Int32} (h : f_R_fits v1 v2 v3 c_n c_rain c_gravel c_kind c_own c_rowOf = some x) :
    kW p l e rm_R_fits s m args below meth c D A 5 (cells_R_fits cI cL cZ a_this a_gravel a_kind a_own a_likely a_tape a_holding a_rowLength a_rowOf a_refusals a_old a_ahead a_cost a_may a_rest a_way c_n c_rain c_ear c_many c_seed c_taped c_from c_to c_token c_value c_imaged c_gravel c_kind c_own c_rowOf) [(0, .ref a_this), (1, .int v1), (2, .int v2), (3, .int v3)] (MQ below (kQi D A (cells_R_fits cI cL cZ a_this a_gravel a_kind a_own a_likely a_tape a_holding a_rowLength a_rowOf a_refusals a_old a_ahead a_cost a_may a_rest a_way c_n c_rain c_ear c_many c_seed c_taped c_from c_to c_token c_value c_imaged c_gravel c_kind c_own c_rowOf) x) args s 0 0 A) 0 [] := by
  unfold f_R_fits at h
  refine k_iconst C (v := (0 : Int32)) dX5_fits_0 (by decide) ?_
  refine k_istore C (lv' := [(4, .int (0 : Int32)), (0, .ref a_this), (1, .int v1), (2, .int v2), (3, .int v3)]) dX5_fits_1 (by decide) rfl ?_
  obtain ⟨x3, hx3, h⟩ := bindE h
  refine k_lv (lv' := [(0, .ref a_this), (1, .int v1), (2, .int v2), (3, .int v3), (4, .int (0 : Int32))]) [1, 2, 3, 4, 0] rfl ?_
  refine s_R_fits_l3 C hx3 ?_
  refine k_iload C dX5_fits_46 0 rfl ?_
  obtain rfl := Option.some.inj h
  exact kret_i C rfl dX5_fits_48
theorem c_R_fits (l : Launch) (D : va_G) (cI : ClassId) (cL : ClassId) (cZ : ClassId) (sz : Nat) (a_this : Nat) (a_gravel : Nat) (a_kind : Nat) (a_own : Nat) (a_likely : Nat) (a_tape : Nat) (a_holding : Nat) (a_rowLength : Nat) (a_rowOf : Nat) (a_refusals : Nat) (a_old : Nat) (a_ahead : Nat) (a_cost : Nat) (a_may : Nat) (a_rest : Nat) (a_way : Nat) (v1 : Int32) (v2 : Int32) (v3 : Int32) (c_n : Int32) (c_rain : Int32) (c_ear : Int32) (c_many : Int32) (c_seed : Int32) (c_taped : Int32) (c_from : Int32) (c_to : Int32) (c_token : Int32) (c_value : Int32) (c_imaged : Int32) (c_gravel : (Nat → Int32)) (c_kind : (Nat → Int32)) (c_own : (Nat → Int32)) (c_rowOf : (Nat → Int64)) (x : Int32) (h : f_R_fits v1 v2 v3 c_n c_rain c_gravel c_kind c_own c_rowOf = some x) :
    Met l yX5_fits (Cond.code yX5_fits cX5_fits 5 (some .int) :: WS) rm_R_fits (kP D (tyG cI cL cZ) kTrue [.ref a_this, .int v1, .int v2, .int v3] sz (cells_R_fits cI cL cZ a_this a_gravel a_kind a_own a_likely a_tape a_holding a_rowLength a_rowOf a_refusals a_old a_ahead a_cost a_may a_rest a_way c_n c_rain c_ear c_many c_seed c_taped c_from c_to c_token c_value c_imaged c_gravel c_kind c_own c_rowOf)) (kQi D (va_A (cells_R_fits cI cL cZ a_this a_gravel a_kind a_own a_likely a_tape a_holding a_rowLength a_rowOf a_refusals a_old a_ahead a_cost a_may a_rest a_way c_n c_rain c_ear c_many c_seed c_taped c_from c_to c_token c_value c_imaged c_gravel c_kind c_own c_rowOf) sz) (cells_R_fits cI cL cZ a_this a_gravel a_kind a_own a_likely a_tape a_holding a_rowLength a_rowOf a_refusals a_old a_ahead a_cost a_may a_rest a_way c_n c_rain c_ear c_many c_seed c_taped c_from c_to c_token c_value c_imaged c_gravel c_kind c_own c_rowOf) x) 0 0 (va_A (cells_R_fits cI cL cZ a_this a_gravel a_kind a_own a_likely a_tape a_holding a_rowLength a_rowOf a_refusals a_old a_ahead a_cost a_may a_rest a_way c_n c_rain c_ear c_many c_seed c_taped c_from c_to c_token c_value c_imaged c_gravel c_kind c_own c_rowOf) sz) :=
  kmet (by decide) (Nat.le_of_ble_eq_true rfl) rfl (fun p e s m below meth c C hE => s_R_fits C h)
abbrev cells_R_fitting (cI : ClassId) (cL : ClassId) (cZ : ClassId) (a_this : Nat) (a_gravel : Nat) (a_kind : Nat) (a_own : Nat) (a_likely : Nat) (a_tape : Nat) (a_holding : Nat) (a_rowLength : Nat) (a_rowOf : Nat) (a_refusals : Nat) (a_old : Nat) (a_ahead : Nat) (a_cost : Nat) (a_may : Nat) (a_rest : Nat) (a_way : Nat) (c_n : Int32) (c_rain : Int32) (c_ear : Int32) (c_many : Int32) (c_seed : Int32) (c_taped : Int32) (c_from : Int32) (c_to : Int32) (c_token : Int32) (c_value : Int32) (c_imaged : Int32) (c_gravel : (Nat → Int32)) (c_kind : (Nat → Int32)) (c_own : (Nat → Int32)) (c_rowOf : (Nat → Int64)) : va_W := [(a_this, .inr (5, [.int c_n, .ref a_gravel, .int c_rain, .int c_ear, .int c_many, .ref a_kind, .ref a_own, .ref a_likely, .int c_seed, .int c_taped, .ref a_tape, .int c_from, .int c_to, .int c_token, .int c_value, .ref a_holding, .ref a_rowLength, .ref a_rowOf, .ref a_refusals, .int c_imaged, .ref a_old, .ref a_ahead, .ref a_cost, .ref a_may, .ref a_rest, .ref a_way])), (a_gravel, .inl (cI, 36, .inl c_gravel)), (a_kind, .inl (cI, 8, .inl c_kind)), (a_own, .inl (cI, 8, .inl c_own)), (a_rowOf, .inl (cL, 320, .inr (.inl c_rowOf)))]
abbrev rm_R_fitting : Room := { frames := 4, cells := 0, slots := 0, locals := 102 }
set_option maxRecDepth 100000 in
set_option maxHeartbeats 4000000 in
theorem s_R_fitting_b5 (C : kC p l e rm_R_fitting s m args below meth c D (tyG cI cL cZ) A 5 cX5_fitting yX5_fitting.cls (Cond.code yX5_fitting cX5_fitting 5 (some .int) :: WS) (some .int)) {a_this : Nat} {a_gravel : Nat} {a_kind : Nat} {a_own : Nat} {a_likely : Nat} {a_tape : Nat} {a_holding : Nat} {a_rowLength : Nat} {a_rowOf : Nat} {a_refusals : Nat} {a_old : Nat} {a_ahead : Nat} {a_cost : Nat} {a_may : Nat} {a_rest : Nat} {a_way : Nat} {v1 : Int32} {v2 : Int32} {v3 : Int32} {v4 : Int32} {c_n : Int32} {c_rain : Int32} {c_ear : Int32} {c_many : Int32} {c_seed : Int32} {c_taped : Int32} {c_from : Int32} {c_to : Int32} {c_token : Int32} {c_value : Int32} {c_imaged : Int32} {c_gravel : (Nat → Int32)} {c_kind : (Nat → Int32)} {c_own : (Nat → Int32)} {c_rowOf : (Nat → Int64)} {x : ((Int32 × Int32) ⊕ Int32)} (h : f_R_fitting_b5 v1 v2 c_n c_rain c_many c_gravel c_kind c_own c_rowOf v3 v4 = some x)
    (kc : ∀ s', x = .inl s' → kW p l e rm_R_fitting s m args below meth c D A 5 (cells_R_fitting cI cL cZ a_this a_gravel a_kind a_own a_likely a_tape a_holding a_rowLength a_rowOf a_refusals a_old a_ahead a_cost a_may a_rest a_way c_n c_rain c_ear c_many c_seed c_taped c_from c_to c_token c_value c_imaged c_gravel c_kind c_own c_rowOf) [(0, .ref a_this), (1, .int v1), (2, .int v2), (3, .int s'.1), (4, .int s'.2)] Q 5 [])
    (k0 : ∀ r, x = .inr r → kW p l e rm_R_fitting s m args below meth c D A 5 (cells_R_fitting cI cL cZ a_this a_gravel a_kind a_own a_likely a_tape a_holding a_rowLength a_rowOf a_refusals a_old a_ahead a_cost a_may a_rest a_way c_n c_rain c_ear c_many c_seed c_taped c_from c_to c_token c_value c_imaged c_gravel c_kind c_own c_rowOf) [(3, .int r)] Q 42 []) :
    kW p l e rm_R_fitting s m args below meth c D A 5 (cells_R_fitting cI cL cZ a_this a_gravel a_kind a_own a_likely a_tape a_holding a_rowLength a_rowOf a_refusals a_old a_ahead a_cost a_may a_rest a_way c_n c_rain c_ear c_many c_seed c_taped c_from c_to c_token c_value c_imaged c_gravel c_kind c_own c_rowOf) [(0, .ref a_this), (1, .int v1), (2, .int v2), (3, .int v3), (4, .int v4)] Q 5 [] := by
  unfold f_R_fitting_b5 at h
  refine k_iload C dX5_fitting_5 4 rfl ?_
  refine k_aload_n C dX5_fitting_7 0 rfl rfl ?_
  refine k_get C (C0 := RX5) (T := TX5) (N := 26) (fun w h => List.mem_cons_of_mem _ (us_R w h)) 0 rfl rfl 4 (by decide) (List.mem_cons_of_mem _ wq_540) rfl rfl dX5_fitting_8 ?_
  refine k_icmp_ge C (tgt := 42) dX5_fitting_11 (by decide) (fun c_11 => ?_) (fun c_11 => ?_)
  · have h := ifT c_11 h
    refine k_lv (lv' := [(3, .int v3)]) [3] rfl ?_
    exact k0 _ (Option.some.inj h).symm
  · have h := ifF c_11 h
    refine k_aload_n C dX5_fitting_14 0 rfl rfl ?_
    refine k_iload_n C dX5_fitting_15 1 rfl rfl ?_
    refine k_iload C dX5_fitting_16 4 rfl ?_
    refine k_iload_n C dX5_fitting_18 2 rfl rfl ?_
    obtain ⟨x1, hx1, h⟩ := bindE h
    refine kcallR_i C (wc := (cells_R_fits cI cL cZ a_this a_gravel a_kind a_own a_likely a_tape a_holding a_rowLength a_rowOf a_refusals a_old a_ahead a_cost a_may a_rest a_way c_n c_rain c_ear c_many c_seed c_taped c_from c_to c_token c_value c_imaged c_gravel c_kind c_own c_rowOf)) (r := x1) [0, 1, 2, 3, 4] (fun H locs ls hP hD hS hF hz => krunV C (q0 := 0) (ci := 5) (c_R_fits l D cI cL cZ H.size a_this a_gravel a_kind a_own a_likely a_tape a_holding a_rowLength a_rowOf a_refusals a_old a_ahead a_cost a_may a_rest a_way v1 v4 v2 c_n c_rain c_ear c_many c_seed c_taped c_from c_to c_token c_value c_imaged c_gravel c_kind c_own c_rowOf x1 hx1) (cwV 3 C.2.2.2.2.1 (gV wq_738 wq_739 wq_740 wq_544 wq_737) rfl rfl rfl (by decide +kernel) ⟨(Nat.le_of_ble_eq_true rfl), (Nat.le_of_ble_eq_true rfl)⟩) rfl rfl kEnv_T rfl rfl (Nat.le_of_ble_eq_true rfl) dX5_fitting_19 hP hD hz) rfl (by decide) ?_
    refine k_aload_n C dX5_fitting_22 0 rfl rfl ?_
    refine k_get C (C0 := RX5) (T := TX5) (N := 26) (fun w h => List.mem_cons_of_mem _ (us_R w h)) 0 rfl rfl 0 (by decide) (List.mem_cons_of_mem _ wq_545) rfl rfl dX5_fitting_23 ?_
    refine k_icmp_ne C (tgt := 36) dX5_fitting_26 (by decide) (fun c_26 => ?_) (fun c_26 => ?_)
    · have h := ifF c_26 h
      refine k_iinc C (v := (v4 + (1 : Int32))) (lv' := [(4, .int (v4 + (1 : Int32))), (0, .ref a_this), (1, .int v1), (2, .int v2), (3, .int v3)]) dX5_fitting_36 4 rfl rfl (by decide) rfl ?_
      refine k_goto C (tgt := 5) dX5_fitting_39 (by decide) ?_
      refine k_lv (lv' := [(0, .ref a_this), (1, .int v1), (2, .int v2), (3, .int v3), (4, .int (v4 + (1 : Int32)))]) [1, 2, 3, 4, 0] rfl ?_
      exact kc _ (Option.some.inj h).symm
    · have h := ifT c_26 h
      refine k_iload_n C dX5_fitting_29 3 rfl rfl ?_
      refine k_iconst C (v := (1 : Int32)) dX5_fitting_30 (by decide) ?_
      refine k_iload C dX5_fitting_31 4 rfl ?_
      refine k_ishl C dX5_fitting_33 ?_
      refine k_ior C dX5_fitting_34 ?_
      refine k_istore_n C (lv' := [(3, .int (v3 ||| ((1 : Int32) <<< (v4 &&& 31)))), (0, .ref a_this), (1, .int v1), (2, .int v2), (4, .int v4)]) dX5_fitting_35 rfl (by decide) rfl ?_
      refine k_iinc C (v := (v4 + (1 : Int32))) (lv' := [(4, .int (v4 + (1 : Int32))), (3, .int (v3 ||| ((1 : Int32) <<< (v4 &&& 31)))), (0, .ref a_this), (1, .int v1), (2, .int v2)]) dX5_fitting_36 4 rfl rfl (by decide) rfl ?_
      refine k_goto C (tgt := 5) dX5_fitting_39 (by decide) ?_
      refine k_lv (lv' := [(0, .ref a_this), (1, .int v1), (2, .int v2), (3, .int (v3 ||| ((1 : Int32) <<< (v4 &&& 31)))), (4, .int (v4 + (1 : Int32)))]) [2, 3, 4, 1, 0] rfl ?_
      exact kc _ (Option.some.inj h).symm
set_option maxRecDepth 100000 in
set_option maxHeartbeats 4000000 in
theorem s_R_fitting_l5 (C : kC p l e rm_R_fitting s m args below meth c D (tyG cI cL cZ) A 5 cX5_fitting yX5_fitting.cls (Cond.code yX5_fitting cX5_fitting 5 (some .int) :: WS) (some .int)) {a_this : Nat} {a_gravel : Nat} {a_kind : Nat} {a_own : Nat} {a_likely : Nat} {a_tape : Nat} {a_holding : Nat} {a_rowLength : Nat} {a_rowOf : Nat} {a_refusals : Nat} {a_old : Nat} {a_ahead : Nat} {a_cost : Nat} {a_may : Nat} {a_rest : Nat} {a_way : Nat} {v1 : Int32} {v2 : Int32} {v3 : Int32} {v4 : Int32} {c_n : Int32} {c_rain : Int32} {c_ear : Int32} {c_many : Int32} {c_seed : Int32} {c_taped : Int32} {c_from : Int32} {c_to : Int32} {c_token : Int32} {c_value : Int32} {c_imaged : Int32} {c_gravel : (Nat → Int32)} {c_kind : (Nat → Int32)} {c_own : (Nat → Int32)} {c_rowOf : (Nat → Int64)} {x : Int32} (h : f_R_fitting_l5 v1 v2 c_n c_rain c_many c_gravel c_kind c_own c_rowOf v3 v4 = some x)
    (k0 : kW p l e rm_R_fitting s m args below meth c D A 5 (cells_R_fitting cI cL cZ a_this a_gravel a_kind a_own a_likely a_tape a_holding a_rowLength a_rowOf a_refusals a_old a_ahead a_cost a_may a_rest a_way c_n c_rain c_ear c_many c_seed c_taped c_from c_to c_token c_value c_imaged c_gravel c_kind c_own c_rowOf) [(3, .int x)] Q 42 []) :
    kW p l e rm_R_fitting s m args below meth c D A 5 (cells_R_fitting cI cL cZ a_this a_gravel a_kind a_own a_likely a_tape a_holding a_rowLength a_rowOf a_refusals a_old a_ahead a_cost a_may a_rest a_way c_n c_rain c_ear c_many c_seed c_taped c_from c_to c_token c_value c_imaged c_gravel c_kind c_own c_rowOf) [(0, .ref a_this), (1, .int v1), (2, .int v2), (3, .int v3), (4, .int v4)] Q 5 [] := by
  unfold f_R_fitting_l5 at h
  exact iter_W (T := fun sg => kW p l e rm_R_fitting s m args below meth c D A 5 (cells_R_fitting cI cL cZ a_this a_gravel a_kind a_own a_likely a_tape a_holding a_rowLength a_rowOf a_refusals a_old a_ahead a_cost a_may a_rest a_way c_n c_rain c_ear c_many c_seed c_taped c_from c_to c_token c_value c_imaged c_gravel c_kind c_own c_rowOf) [(0, .ref a_this), (1, .int v1), (2, .int v2), (3, .int sg.1), (4, .int sg.2)] Q 5 []) (fun sg y hy hc _ hr => s_R_fitting_b5 C hy (fun s' e => hc s' e) (fun r e => by rw [hr r e]; exact k0)) FUEL _ h
set_option maxRecDepth 100000 in
set_option maxHeartbeats 4000000 in
theorem s_R_fitting (C : kC p l e rm_R_fitting s m args below meth c D (tyG cI cL cZ) A 5 cX5_fitting yX5_fitting.cls (Cond.code yX5_fitting cX5_fitting 5 (some .int) :: WS) (some .int)) {a_this : Nat} {a_gravel : Nat} {a_kind : Nat} {a_own : Nat} {a_likely : Nat} {a_tape : Nat} {a_holding : Nat} {a_rowLength : Nat} {a_rowOf : Nat} {a_refusals : Nat} {a_old : Nat} {a_ahead : Nat} {a_cost : Nat} {a_may : Nat} {a_rest : Nat} {a_way : Nat} {v1 : Int32} {v2 : Int32} {c_n : Int32} {c_rain : Int32} {c_ear : Int32} {c_many : Int32} {c_seed : Int32} {c_taped : Int32} {c_from : Int32} {c_to : Int32} {c_token : Int32} {c_value : Int32} {c_imaged : Int32} {c_gravel : (Nat → Int32)} {c_kind : (Nat → Int32)} {c_own : (Nat → Int32)} {c_rowOf : (Nat → Int64)} {x : Int32} (h : f_R_fitting v1 v2 c_n c_rain c_many c_gravel c_kind c_own c_rowOf = some x) :
    kW p l e rm_R_fitting s m args below meth c D A 5 (cells_R_fitting cI cL cZ a_this a_gravel a_kind a_own a_likely a_tape a_holding a_rowLength a_rowOf a_refusals a_old a_ahead a_cost a_may a_rest a_way c_n c_rain c_ear c_many c_seed c_taped c_from c_to c_token c_value c_imaged c_gravel c_kind c_own c_rowOf) [(0, .ref a_this), (1, .int v1), (2, .int v2)] (MQ below (kQi D A (cells_R_fitting cI cL cZ a_this a_gravel a_kind a_own a_likely a_tape a_holding a_rowLength a_rowOf a_refusals a_old a_ahead a_cost a_may a_rest a_way c_n c_rain c_ear c_many c_seed c_taped c_from c_to c_token c_value c_imaged c_gravel c_kind c_own c_rowOf) x) args s 0 0 A) 0 [] := by
  unfold f_R_fitting at h
  refine k_iconst C (v := (0 : Int32)) dX5_fitting_0 (by decide) ?_
  refine k_istore_n C (lv' := [(3, .int (0 : Int32)), (0, .ref a_this), (1, .int v1), (2, .int v2)]) dX5_fitting_1 rfl (by decide) rfl ?_
  refine k_iconst C (v := (0 : Int32)) dX5_fitting_2 (by decide) ?_
  refine k_istore C (lv' := [(4, .int (0 : Int32)), (3, .int (0 : Int32)), (0, .ref a_this), (1, .int v1), (2, .int v2)]) dX5_fitting_3 (by decide) rfl ?_
  obtain ⟨x2, hx2, h⟩ := bindE h
  refine k_lv (lv' := [(0, .ref a_this), (1, .int v1), (2, .int v2), (3, .int (0 : Int32)), (4, .int (0 : Int32))]) [2, 3, 4, 1, 0] rfl ?_
  refine s_R_fitting_l5 C hx2 ?_
  refine k_iload_n C dX5_fitting_42 0 rfl rfl ?_
  obtain rfl := Option.some.inj h
  exact kret_i C rfl dX5_fitting_43
theorem c_R_fitting (l : Launch) (D : va_G) (cI : ClassId) (cL : ClassId) (cZ : ClassId) (sz : Nat) (a_this : Nat) (a_gravel : Nat) (a_kind : Nat) (a_own : Nat) (a_likely : Nat) (a_tape : Nat) (a_holding : Nat) (a_rowLength : Nat) (a_rowOf : Nat) (a_refusals : Nat) (a_old : Nat) (a_ahead : Nat) (a_cost : Nat) (a_may : Nat) (a_rest : Nat) (a_way : Nat) (v1 : Int32) (v2 : Int32) (c_n : Int32) (c_rain : Int32) (c_ear : Int32) (c_many : Int32) (c_seed : Int32) (c_taped : Int32) (c_from : Int32) (c_to : Int32) (c_token : Int32) (c_value : Int32) (c_imaged : Int32) (c_gravel : (Nat → Int32)) (c_kind : (Nat → Int32)) (c_own : (Nat → Int32)) (c_rowOf : (Nat → Int64)) (x : Int32) (h : f_R_fitting v1 v2 c_n c_rain c_many c_gravel c_kind c_own c_rowOf = some x) :
    Met l yX5_fitting (Cond.code yX5_fitting cX5_fitting 5 (some .int) :: WS) rm_R_fitting (kP D (tyG cI cL cZ) kTrue [.ref a_this, .int v1, .int v2] sz (cells_R_fitting cI cL cZ a_this a_gravel a_kind a_own a_likely a_tape a_holding a_rowLength a_rowOf a_refusals a_old a_ahead a_cost a_may a_rest a_way c_n c_rain c_ear c_many c_seed c_taped c_from c_to c_token c_value c_imaged c_gravel c_kind c_own c_rowOf)) (kQi D (va_A (cells_R_fitting cI cL cZ a_this a_gravel a_kind a_own a_likely a_tape a_holding a_rowLength a_rowOf a_refusals a_old a_ahead a_cost a_may a_rest a_way c_n c_rain c_ear c_many c_seed c_taped c_from c_to c_token c_value c_imaged c_gravel c_kind c_own c_rowOf) sz) (cells_R_fitting cI cL cZ a_this a_gravel a_kind a_own a_likely a_tape a_holding a_rowLength a_rowOf a_refusals a_old a_ahead a_cost a_may a_rest a_way c_n c_rain c_ear c_many c_seed c_taped c_from c_to c_token c_value c_imaged c_gravel c_kind c_own c_rowOf) x) 0 0 (va_A (cells_R_fitting cI cL cZ a_this a_gravel a_kind a_own a_likely a_tape a_holding a_rowLength a_rowOf a_refusals a_old a_ahead a_cost a_may a_rest a_way c_n c_rain c_ear c_many c_seed c_taped c_from c_to c_token c_value c_imaged c_gravel c_kind c_own c_rowOf) sz) :=
  kmet (by decide) (Nat.le_of_ble_eq_true rfl) rfl (fun p e s m below meth c C hE => s_R_fitting C h)
abbrev cells_R_likeliest (cI : ClassId) (cL : ClassId) (cZ : ClassId) (a_this : Nat) (a_gravel : Nat) (a_kind : Nat) (a_own : Nat) (a_likely : Nat) (a_tape : Nat) (a_holding : Nat) (a_rowLength : Nat) (a_rowOf : Nat) (a_refusals : Nat) (a_old : Nat) (a_ahead : Nat) (a_cost : Nat) (a_may : Nat) (a_rest : Nat) (a_way : Nat) (c_n : Int32) (c_rain : Int32) (c_ear : Int32) (c_many : Int32) (c_seed : Int32) (c_taped : Int32) (c_from : Int32) (c_to : Int32) (c_token : Int32) (c_value : Int32) (c_imaged : Int32) (c_likely : (Nat → Int32)) : va_W := [(a_this, .inr (5, [.int c_n, .ref a_gravel, .int c_rain, .int c_ear, .int c_many, .ref a_kind, .ref a_own, .ref a_likely, .int c_seed, .int c_taped, .ref a_tape, .int c_from, .int c_to, .int c_token, .int c_value, .ref a_holding, .ref a_rowLength, .ref a_rowOf, .ref a_refusals, .int c_imaged, .ref a_old, .ref a_ahead, .ref a_cost, .ref a_may, .ref a_rest, .ref a_way])), (a_likely, .inl (cI, 8, .inl c_likely))]
abbrev rm_R_likeliest : Room := { frames := 0, cells := 0, slots := 0, locals := 0 }
set_option maxRecDepth 100000 in
set_option maxHeartbeats 4000000 in
theorem s_R_likeliest_b4 (C : kC p l e rm_R_likeliest s m args below meth c D (tyG cI cL cZ) A 4 cX5_likeliest yX5_likeliest.cls (Cond.code yX5_likeliest cX5_likeliest 4 (some .int) :: WS) (some .int)) {a_this : Nat} {a_gravel : Nat} {a_kind : Nat} {a_own : Nat} {a_likely : Nat} {a_tape : Nat} {a_holding : Nat} {a_rowLength : Nat} {a_rowOf : Nat} {a_refusals : Nat} {a_old : Nat} {a_ahead : Nat} {a_cost : Nat} {a_may : Nat} {a_rest : Nat} {a_way : Nat} {v1 : Int32} {v2 : Int32} {v3 : Int32} {c_n : Int32} {c_rain : Int32} {c_ear : Int32} {c_many : Int32} {c_seed : Int32} {c_taped : Int32} {c_from : Int32} {c_to : Int32} {c_token : Int32} {c_value : Int32} {c_imaged : Int32} {c_likely : (Nat → Int32)} {x : ((Int32 × Int32) ⊕ Int32)} (h : f_R_likeliest_b4 v1 c_many c_likely v2 v3 = some x)
    (kc : ∀ s', x = .inl s' → kW p l e rm_R_likeliest s m args below meth c D A 4 (cells_R_likeliest cI cL cZ a_this a_gravel a_kind a_own a_likely a_tape a_holding a_rowLength a_rowOf a_refusals a_old a_ahead a_cost a_may a_rest a_way c_n c_rain c_ear c_many c_seed c_taped c_from c_to c_token c_value c_imaged c_likely) [(0, .ref a_this), (1, .int v1), (2, .int s'.1), (3, .int s'.2)] Q 4 [])
    (k0 : ∀ r, x = .inr r → kW p l e rm_R_likeliest s m args below meth c D A 4 (cells_R_likeliest cI cL cZ a_this a_gravel a_kind a_own a_likely a_tape a_holding a_rowLength a_rowOf a_refusals a_old a_ahead a_cost a_may a_rest a_way c_n c_rain c_ear c_many c_seed c_taped c_from c_to c_token c_value c_imaged c_likely) [(2, .int r)] Q 49 []) :
    kW p l e rm_R_likeliest s m args below meth c D A 4 (cells_R_likeliest cI cL cZ a_this a_gravel a_kind a_own a_likely a_tape a_holding a_rowLength a_rowOf a_refusals a_old a_ahead a_cost a_may a_rest a_way c_n c_rain c_ear c_many c_seed c_taped c_from c_to c_token c_value c_imaged c_likely) [(0, .ref a_this), (1, .int v1), (2, .int v2), (3, .int v3)] Q 4 [] := by
  unfold f_R_likeliest_b4 at h
  refine k_iload_n C dX5_likeliest_4 3 rfl rfl ?_
  refine k_aload_n C dX5_likeliest_5 0 rfl rfl ?_
  refine k_get C (C0 := RX5) (T := TX5) (N := 26) (fun w h => List.mem_cons_of_mem _ (us_R w h)) 0 rfl rfl 4 (by decide) (List.mem_cons_of_mem _ wq_540) rfl rfl dX5_likeliest_6 ?_
  refine k_icmp_ge C (tgt := 49) dX5_likeliest_9 (by decide) (fun c_9 => ?_) (fun c_9 => ?_)
  · have h := ifT c_9 h
    refine k_lv (lv' := [(2, .int v2)]) [2] rfl ?_
    exact k0 _ (Option.some.inj h).symm
  · have h := ifF c_9 h
    refine k_iload_n C dX5_likeliest_12 1 rfl rfl ?_
    refine k_iload_n C dX5_likeliest_13 3 rfl rfl ?_
    refine k_ishr C dX5_likeliest_14 ?_
    refine k_iconst C (v := (1 : Int32)) dX5_likeliest_15 (by decide) ?_
    refine k_iand C dX5_likeliest_16 ?_
    refine k_iconst C (v := (1 : Int32)) dX5_likeliest_17 (by decide) ?_
    refine k_icmp_ne C (tgt := 43) dX5_likeliest_18 (by decide) (fun c_18 => ?_) (fun c_18 => ?_)
    · have h := ifF c_18 h
      refine k_iinc C (v := (v3 + (1 : Int32))) (lv' := [(3, .int (v3 + (1 : Int32))), (0, .ref a_this), (1, .int v1), (2, .int v2)]) dX5_likeliest_43 3 rfl rfl (by decide) rfl ?_
      refine k_goto C (tgt := 4) dX5_likeliest_46 (by decide) ?_
      refine k_lv (lv' := [(0, .ref a_this), (1, .int v1), (2, .int v2), (3, .int (v3 + (1 : Int32)))]) [1, 2, 3, 0] rfl ?_
      exact kc _ (Option.some.inj h).symm
    · have h := ifT c_18 h
      refine k_iload_n C dX5_likeliest_21 2 rfl rfl ?_
      refine k_iconst C (v := (-1 : Int32)) dX5_likeliest_22 (by decide) ?_
      refine k_icmp_eq C (tgt := 41) dX5_likeliest_23 (by decide) (fun c_23 => ?_) (fun c_23 => ?_)
      · have h := ifT c_23 h
        refine k_iload_n C dX5_likeliest_41 3 rfl rfl ?_
        refine k_istore_n C (lv' := [(2, .int v3), (0, .ref a_this), (1, .int v1), (3, .int v3)]) dX5_likeliest_42 rfl (by decide) rfl ?_
        refine k_iinc C (v := (v3 + (1 : Int32))) (lv' := [(3, .int (v3 + (1 : Int32))), (2, .int v3), (0, .ref a_this), (1, .int v1)]) dX5_likeliest_43 3 rfl rfl (by decide) rfl ?_
        refine k_goto C (tgt := 4) dX5_likeliest_46 (by decide) ?_
        refine k_lv (lv' := [(0, .ref a_this), (1, .int v1), (2, .int v3), (3, .int (v3 + (1 : Int32)))]) [2, 3, 1, 0] rfl ?_
        exact kc _ (Option.some.inj h).symm
      · have h := ifF c_23 h
        refine k_aload_n C dX5_likeliest_26 0 rfl rfl ?_
        refine k_get C (C0 := RX5) (T := TX5) (N := 26) (fun w h => List.mem_cons_of_mem _ (us_R w h)) 0 rfl rfl 7 (by decide) (List.mem_cons_of_mem _ wq_587) rfl rfl dX5_likeliest_27 ?_
        refine k_iload_n C dX5_likeliest_30 3 rfl rfl ?_
        obtain ⟨x1, hx1, h⟩ := bindE h
        refine k_iald C 1 0 rfl rfl hx1 dX5_likeliest_31 ?_
        refine k_aload_n C dX5_likeliest_32 0 rfl rfl ?_
        refine k_get C (C0 := RX5) (T := TX5) (N := 26) (fun w h => List.mem_cons_of_mem _ (us_R w h)) 0 rfl rfl 7 (by decide) (List.mem_cons_of_mem _ wq_587) rfl rfl dX5_likeliest_33 ?_
        refine k_iload_n C dX5_likeliest_36 2 rfl rfl ?_
        obtain ⟨x2, hx2, h⟩ := bindE h
        refine k_iald C 1 0 rfl rfl hx2 dX5_likeliest_37 ?_
        refine k_icmp_le C (tgt := 43) dX5_likeliest_38 (by decide) (fun c_38 => ?_) (fun c_38 => ?_)
        · have h := ifT c_38 h
          refine k_iinc C (v := (v3 + (1 : Int32))) (lv' := [(3, .int (v3 + (1 : Int32))), (0, .ref a_this), (1, .int v1), (2, .int v2)]) dX5_likeliest_43 3 rfl rfl (by decide) rfl ?_
          refine k_goto C (tgt := 4) dX5_likeliest_46 (by decide) ?_
          refine k_lv (lv' := [(0, .ref a_this), (1, .int v1), (2, .int v2), (3, .int (v3 + (1 : Int32)))]) [1, 2, 3, 0] rfl ?_
          exact kc _ (Option.some.inj h).symm
        · have h := ifF c_38 h
          refine k_iload_n C dX5_likeliest_41 3 rfl rfl ?_
          refine k_istore_n C (lv' := [(2, .int v3), (0, .ref a_this), (1, .int v1), (3, .int v3)]) dX5_likeliest_42 rfl (by decide) rfl ?_
          refine k_iinc C (v := (v3 + (1 : Int32))) (lv' := [(3, .int (v3 + (1 : Int32))), (2, .int v3), (0, .ref a_this), (1, .int v1)]) dX5_likeliest_43 3 rfl rfl (by decide) rfl ?_
          refine k_goto C (tgt := 4) dX5_likeliest_46 (by decide) ?_
          refine k_lv (lv' := [(0, .ref a_this), (1, .int v1), (2, .int v3), (3, .int (v3 + (1 : Int32)))]) [2, 3, 1, 0] rfl ?_
          exact kc _ (Option.some.inj h).symm
set_option maxRecDepth 100000 in
set_option maxHeartbeats 4000000 in
theorem s_R_likeliest_l4 (C : kC p l e rm_R_likeliest s m args below meth c D (tyG cI cL cZ) A 4 cX5_likeliest yX5_likeliest.cls (Cond.code yX5_likeliest cX5_likeliest 4 (some .int) :: WS) (some .int)) {a_this : Nat} {a_gravel : Nat} {a_kind : Nat} {a_own : Nat} {a_likely : Nat} {a_tape : Nat} {a_holding : Nat} {a_rowLength : Nat} {a_rowOf : Nat} {a_refusals : Nat} {a_old : Nat} {a_ahead : Nat} {a_cost : Nat} {a_may : Nat} {a_rest : Nat} {a_way : Nat} {v1 : Int32} {v2 : Int32} {v3 : Int32} {c_n : Int32} {c_rain : Int32} {c_ear : Int32} {c_many : Int32} {c_seed : Int32} {c_taped : Int32} {c_from : Int32} {c_to : Int32} {c_token : Int32} {c_value : Int32} {c_imaged : Int32} {c_likely : (Nat → Int32)} {x : Int32} (h : f_R_likeliest_l4 v1 c_many c_likely v2 v3 = some x)
    (k0 : kW p l e rm_R_likeliest s m args below meth c D A 4 (cells_R_likeliest cI cL cZ a_this a_gravel a_kind a_own a_likely a_tape a_holding a_rowLength a_rowOf a_refusals a_old a_ahead a_cost a_may a_rest a_way c_n c_rain c_ear c_many c_seed c_taped c_from c_to c_token c_value c_imaged c_likely) [(2, .int x)] Q 49 []) :
    kW p l e rm_R_likeliest s m args below meth c D A 4 (cells_R_likeliest cI cL cZ a_this a_gravel a_kind a_own a_likely a_tape a_holding a_rowLength a_rowOf a_refusals a_old a_ahead a_cost a_may a_rest a_way c_n c_rain c_ear c_many c_seed c_taped c_from c_to c_token c_value c_imaged c_likely) [(0, .ref a_this), (1, .int v1), (2, .int v2), (3, .int v3)] Q 4 [] := by
  unfold f_R_likeliest_l4 at h
  exact iter_W (T := fun sg => kW p l e rm_R_likeliest s m args below meth c D A 4 (cells_R_likeliest cI cL cZ a_this a_gravel a_kind a_own a_likely a_tape a_holding a_rowLength a_rowOf a_refusals a_old a_ahead a_cost a_may a_rest a_way c_n c_rain c_ear c_many c_seed c_taped c_from c_to c_token c_value c_imaged c_likely) [(0, .ref a_this), (1, .int v1), (2, .int sg.1), (3, .int sg.2)] Q 4 []) (fun sg y hy hc _ hr => s_R_likeliest_b4 C hy (fun s' e => hc s' e) (fun r e => by rw [hr r e]; exact k0)) FUEL _ h
set_option maxRecDepth 100000 in
set_option maxHeartbeats 4000000 in
theorem s_R_likeliest (C : kC p l e rm_R_likeliest s m args below meth c D (tyG cI cL cZ) A 4 cX5_likeliest yX5_likeliest.cls (Cond.code yX5_likeliest cX5_likeliest 4 (some .int) :: WS) (some .int)) {a_this : Nat} {a_gravel : Nat} {a_kind : Nat} {a_own : Nat} {a_likely : Nat} {a_tape : Nat} {a_holding : Nat} {a_rowLength : Nat} {a_rowOf : Nat} {a_refusals : Nat} {a_old : Nat} {a_ahead : Nat} {a_cost : Nat} {a_may : Nat} {a_rest : Nat} {a_way : Nat} {v1 : Int32} {c_n : Int32} {c_rain : Int32} {c_ear : Int32} {c_many : Int32} {c_seed : Int32} {c_taped : Int32} {c_from : Int32} {c_to : Int32} {c_token : Int32} {c_value : Int32} {c_imaged : Int32} {c_likely : (Nat → Int32)} {x : Int32} (h : f_R_likeliest v1 c_many c_likely = some x) :
    kW p l e rm_R_likeliest s m args below meth c D A 4 (cells_R_likeliest cI cL cZ a_this a_gravel a_kind a_own a_likely a_tape a_holding a_rowLength a_rowOf a_refusals a_old a_ahead a_cost a_may a_rest a_way c_n c_rain c_ear c_many c_seed c_taped c_from c_to c_token c_value c_imaged c_likely) [(0, .ref a_this), (1, .int v1)] (MQ below (kQi D A (cells_R_likeliest cI cL cZ a_this a_gravel a_kind a_own a_likely a_tape a_holding a_rowLength a_rowOf a_refusals a_old a_ahead a_cost a_may a_rest a_way c_n c_rain c_ear c_many c_seed c_taped c_from c_to c_token c_value c_imaged c_likely) x) args s 0 0 A) 0 [] := by
  unfold f_R_likeliest at h
  refine k_iconst C (v := (-1 : Int32)) dX5_likeliest_0 (by decide) ?_
  refine k_istore_n C (lv' := [(2, .int (-1 : Int32)), (0, .ref a_this), (1, .int v1)]) dX5_likeliest_1 rfl (by decide) rfl ?_
  refine k_iconst C (v := (0 : Int32)) dX5_likeliest_2 (by decide) ?_
  refine k_istore_n C (lv' := [(3, .int (0 : Int32)), (2, .int (-1 : Int32)), (0, .ref a_this), (1, .int v1)]) dX5_likeliest_3 rfl (by decide) rfl ?_
  obtain ⟨x3, hx3, h⟩ := bindE h
  refine k_lv (lv' := [(0, .ref a_this), (1, .int v1), (2, .int (-1 : Int32)), (3, .int (0 : Int32))]) [2, 3, 1, 0] rfl ?_
  refine s_R_likeliest_l4 C hx3 ?_
  refine k_iload_n C dX5_likeliest_49 0 rfl rfl ?_
  obtain rfl := Option.some.inj h
  exact kret_i C rfl dX5_likeliest_50
theorem c_R_likeliest (l : Launch) (D : va_G) (cI : ClassId) (cL : ClassId) (cZ : ClassId) (sz : Nat) (a_this : Nat) (a_gravel : Nat) (a_kind : Nat) (a_own : Nat) (a_likely : Nat) (a_tape : Nat) (a_holding : Nat) (a_rowLength : Nat) (a_rowOf : Nat) (a_refusals : Nat) (a_old : Nat) (a_ahead : Nat) (a_cost : Nat) (a_may : Nat) (a_rest : Nat) (a_way : Nat) (v1 : Int32) (c_n : Int32) (c_rain : Int32) (c_ear : Int32) (c_many : Int32) (c_seed : Int32) (c_taped : Int32) (c_from : Int32) (c_to : Int32) (c_token : Int32) (c_value : Int32) (c_imaged : Int32) (c_likely : (Nat → Int32)) (x : Int32) (h : f_R_likeliest v1 c_many c_likely = some x) :
    Met l yX5_likeliest (Cond.code yX5_likeliest cX5_likeliest 4 (some .int) :: WS) rm_R_likeliest (kP D (tyG cI cL cZ) kTrue [.ref a_this, .int v1] sz (cells_R_likeliest cI cL cZ a_this a_gravel a_kind a_own a_likely a_tape a_holding a_rowLength a_rowOf a_refusals a_old a_ahead a_cost a_may a_rest a_way c_n c_rain c_ear c_many c_seed c_taped c_from c_to c_token c_value c_imaged c_likely)) (kQi D (va_A (cells_R_likeliest cI cL cZ a_this a_gravel a_kind a_own a_likely a_tape a_holding a_rowLength a_rowOf a_refusals a_old a_ahead a_cost a_may a_rest a_way c_n c_rain c_ear c_many c_seed c_taped c_from c_to c_token c_value c_imaged c_likely) sz) (cells_R_likeliest cI cL cZ a_this a_gravel a_kind a_own a_likely a_tape a_holding a_rowLength a_rowOf a_refusals a_old a_ahead a_cost a_may a_rest a_way c_n c_rain c_ear c_many c_seed c_taped c_from c_to c_token c_value c_imaged c_likely) x) 0 0 (va_A (cells_R_likeliest cI cL cZ a_this a_gravel a_kind a_own a_likely a_tape a_holding a_rowLength a_rowOf a_refusals a_old a_ahead a_cost a_may a_rest a_way c_n c_rain c_ear c_many c_seed c_taped c_from c_to c_token c_value c_imaged c_likely) sz) :=
  kmet (by decide) (Nat.le_of_ble_eq_true rfl) rfl (fun p e s m below meth c C hE => s_R_likeliest C h)
abbrev cells_R_sure (cI : ClassId) (cL : ClassId) (cZ : ClassId) (a_this : Nat) (a_gravel : Nat) (a_kind : Nat) (a_own : Nat) (a_likely : Nat) (a_tape : Nat) (a_holding : Nat) (a_rowLength : Nat) (a_rowOf : Nat) (a_refusals : Nat) (a_old : Nat) (a_ahead : Nat) (a_cost : Nat) (a_may : Nat) (a_rest : Nat) (a_way : Nat) (c_n : Int32) (c_rain : Int32) (c_ear : Int32) (c_many : Int32) (c_seed : Int32) (c_taped : Int32) (c_from : Int32) (c_to : Int32) (c_token : Int32) (c_value : Int32) (c_imaged : Int32) (c_gravel : (Nat → Int32)) (c_kind : (Nat → Int32)) (c_own : (Nat → Int32)) (c_rowOf : (Nat → Int64)) : va_W := [(a_this, .inr (5, [.int c_n, .ref a_gravel, .int c_rain, .int c_ear, .int c_many, .ref a_kind, .ref a_own, .ref a_likely, .int c_seed, .int c_taped, .ref a_tape, .int c_from, .int c_to, .int c_token, .int c_value, .ref a_holding, .ref a_rowLength, .ref a_rowOf, .ref a_refusals, .int c_imaged, .ref a_old, .ref a_ahead, .ref a_cost, .ref a_may, .ref a_rest, .ref a_way])), (a_gravel, .inl (cI, 36, .inl c_gravel)), (a_kind, .inl (cI, 8, .inl c_kind)), (a_own, .inl (cI, 8, .inl c_own)), (a_rowOf, .inl (cL, 320, .inr (.inl c_rowOf)))]
abbrev rm_R_sure : Room := { frames := 4, cells := 0, slots := 0, locals := 102 }
set_option maxRecDepth 100000 in
set_option maxHeartbeats 4000000 in
theorem s_R_sure_b16 (C : kC p l e rm_R_sure s m args below meth c D (tyG cI cL cZ) A 6 cX5_sure yX5_sure.cls (Cond.code yX5_sure cX5_sure 6 (some .int) :: WS) (some .int)) {a_this : Nat} {a_gravel : Nat} {a_kind : Nat} {a_own : Nat} {a_likely : Nat} {a_tape : Nat} {a_holding : Nat} {a_rowLength : Nat} {a_rowOf : Nat} {a_refusals : Nat} {a_old : Nat} {a_ahead : Nat} {a_cost : Nat} {a_may : Nat} {a_rest : Nat} {a_way : Nat} {v1 : Int32} {v2 : Int32} {v3 : Int32} {v4 : Int32} {v5 : Int32} {c_n : Int32} {c_rain : Int32} {c_ear : Int32} {c_many : Int32} {c_seed : Int32} {c_taped : Int32} {c_from : Int32} {c_to : Int32} {c_token : Int32} {c_value : Int32} {c_imaged : Int32} {c_gravel : (Nat → Int32)} {c_kind : (Nat → Int32)} {c_own : (Nat → Int32)} {c_rowOf : (Nat → Int64)} {x : ((Int32 × Int32) ⊕ Int32)} (h : f_R_sure_b16 v1 v2 v3 c_n c_rain c_many c_gravel c_kind c_own c_rowOf v4 v5 = some x)
    (kc : ∀ s', x = .inl s' → kW p l e rm_R_sure s m args below meth c D A 6 (cells_R_sure cI cL cZ a_this a_gravel a_kind a_own a_likely a_tape a_holding a_rowLength a_rowOf a_refusals a_old a_ahead a_cost a_may a_rest a_way c_n c_rain c_ear c_many c_seed c_taped c_from c_to c_token c_value c_imaged c_gravel c_kind c_own c_rowOf) [(0, .ref a_this), (1, .int v1), (2, .int v2), (3, .int v3), (4, .int s'.1), (5, .int s'.2)] Q 16 [])
    (k0 : ∀ r, x = .inr r → kW p l e rm_R_sure s m args below meth c D A 6 (cells_R_sure cI cL cZ a_this a_gravel a_kind a_own a_likely a_tape a_holding a_rowLength a_rowOf a_refusals a_old a_ahead a_cost a_may a_rest a_way c_n c_rain c_ear c_many c_seed c_taped c_from c_to c_token c_value c_imaged c_gravel c_kind c_own c_rowOf) [(0, .ref a_this), (1, .int v1), (2, .int v2), (3, .int v3), (4, .int r)] Q 46 []) :
    kW p l e rm_R_sure s m args below meth c D A 6 (cells_R_sure cI cL cZ a_this a_gravel a_kind a_own a_likely a_tape a_holding a_rowLength a_rowOf a_refusals a_old a_ahead a_cost a_may a_rest a_way c_n c_rain c_ear c_many c_seed c_taped c_from c_to c_token c_value c_imaged c_gravel c_kind c_own c_rowOf) [(0, .ref a_this), (1, .int v1), (2, .int v2), (3, .int v3), (4, .int v4), (5, .int v5)] Q 16 [] := by
  unfold f_R_sure_b16 at h
  refine k_iload C dX5_sure_16 5 rfl ?_
  refine k_aload_n C dX5_sure_18 0 rfl rfl ?_
  refine k_get C (C0 := RX5) (T := TX5) (N := 26) (fun w h => List.mem_cons_of_mem _ (us_R w h)) 0 rfl rfl 4 (by decide) (List.mem_cons_of_mem _ wq_540) rfl rfl dX5_sure_19 ?_
  refine k_icmp_ge C (tgt := 46) dX5_sure_22 (by decide) (fun c_22 => ?_) (fun c_22 => ?_)
  · have h := ifT c_22 h
    refine k_lv (lv' := [(0, .ref a_this), (1, .int v1), (2, .int v2), (3, .int v3), (4, .int v4)]) [0, 1, 2, 3, 4] rfl ?_
    exact k0 _ (Option.some.inj h).symm
  · have h := ifF c_22 h
    refine k_aload_n C dX5_sure_25 0 rfl rfl ?_
    refine k_iload_n C dX5_sure_26 1 rfl rfl ?_
    refine k_iload C dX5_sure_27 5 rfl ?_
    refine k_iload_n C dX5_sure_29 2 rfl rfl ?_
    obtain ⟨x1, hx1, h⟩ := bindE h
    refine kcallR_i C (wc := (cells_R_fits cI cL cZ a_this a_gravel a_kind a_own a_likely a_tape a_holding a_rowLength a_rowOf a_refusals a_old a_ahead a_cost a_may a_rest a_way c_n c_rain c_ear c_many c_seed c_taped c_from c_to c_token c_value c_imaged c_gravel c_kind c_own c_rowOf)) (r := x1) [0, 1, 2, 3, 4] (fun H locs ls hP hD hS hF hz => krunV C (q0 := 0) (ci := 5) (c_R_fits l D cI cL cZ H.size a_this a_gravel a_kind a_own a_likely a_tape a_holding a_rowLength a_rowOf a_refusals a_old a_ahead a_cost a_may a_rest a_way v1 v5 v2 c_n c_rain c_ear c_many c_seed c_taped c_from c_to c_token c_value c_imaged c_gravel c_kind c_own c_rowOf x1 hx1) (cwV 3 C.2.2.2.2.1 (gV wq_738 wq_739 wq_740 wq_544 wq_737) rfl rfl rfl (by decide +kernel) ⟨(Nat.le_of_ble_eq_true rfl), (Nat.le_of_ble_eq_true rfl)⟩) rfl rfl kEnv_T rfl rfl (Nat.le_of_ble_eq_true rfl) dX5_sure_30 hP hD hz) rfl (by decide) ?_
    refine k_iload_n C dX5_sure_33 3 rfl rfl ?_
    refine k_icmp_lt C (tgt := 40) dX5_sure_34 (by decide) (fun c_34 => ?_) (fun c_34 => ?_)
    · have h := ifT c_34 h
      refine k_iinc C (v := (v5 + (1 : Int32))) (lv' := [(5, .int (v5 + (1 : Int32))), (0, .ref a_this), (1, .int v1), (2, .int v2), (3, .int v3), (4, .int v4)]) dX5_sure_40 5 rfl rfl (by decide) rfl ?_
      refine k_goto C (tgt := 16) dX5_sure_43 (by decide) ?_
      refine k_lv (lv' := [(0, .ref a_this), (1, .int v1), (2, .int v2), (3, .int v3), (4, .int v4), (5, .int (v5 + (1 : Int32)))]) [1, 2, 3, 4, 5, 0] rfl ?_
      exact kc _ (Option.some.inj h).symm
    · have h := ifF c_34 h
      refine k_iinc C (v := (v4 + (1 : Int32))) (lv' := [(4, .int (v4 + (1 : Int32))), (0, .ref a_this), (1, .int v1), (2, .int v2), (3, .int v3), (5, .int v5)]) dX5_sure_37 4 rfl rfl (by decide) rfl ?_
      refine k_iinc C (v := (v5 + (1 : Int32))) (lv' := [(5, .int (v5 + (1 : Int32))), (4, .int (v4 + (1 : Int32))), (0, .ref a_this), (1, .int v1), (2, .int v2), (3, .int v3)]) dX5_sure_40 5 rfl rfl (by decide) rfl ?_
      refine k_goto C (tgt := 16) dX5_sure_43 (by decide) ?_
      refine k_lv (lv' := [(0, .ref a_this), (1, .int v1), (2, .int v2), (3, .int v3), (4, .int (v4 + (1 : Int32))), (5, .int (v5 + (1 : Int32)))]) [2, 3, 4, 5, 1, 0] rfl ?_
      exact kc _ (Option.some.inj h).symm
set_option maxRecDepth 100000 in
set_option maxHeartbeats 4000000 in
theorem s_R_sure_l16 (C : kC p l e rm_R_sure s m args below meth c D (tyG cI cL cZ) A 6 cX5_sure yX5_sure.cls (Cond.code yX5_sure cX5_sure 6 (some .int) :: WS) (some .int)) {a_this : Nat} {a_gravel : Nat} {a_kind : Nat} {a_own : Nat} {a_likely : Nat} {a_tape : Nat} {a_holding : Nat} {a_rowLength : Nat} {a_rowOf : Nat} {a_refusals : Nat} {a_old : Nat} {a_ahead : Nat} {a_cost : Nat} {a_may : Nat} {a_rest : Nat} {a_way : Nat} {v1 : Int32} {v2 : Int32} {v3 : Int32} {v4 : Int32} {v5 : Int32} {c_n : Int32} {c_rain : Int32} {c_ear : Int32} {c_many : Int32} {c_seed : Int32} {c_taped : Int32} {c_from : Int32} {c_to : Int32} {c_token : Int32} {c_value : Int32} {c_imaged : Int32} {c_gravel : (Nat → Int32)} {c_kind : (Nat → Int32)} {c_own : (Nat → Int32)} {c_rowOf : (Nat → Int64)} {x : Int32} (h : f_R_sure_l16 v1 v2 v3 c_n c_rain c_many c_gravel c_kind c_own c_rowOf v4 v5 = some x)
    (k0 : kW p l e rm_R_sure s m args below meth c D A 6 (cells_R_sure cI cL cZ a_this a_gravel a_kind a_own a_likely a_tape a_holding a_rowLength a_rowOf a_refusals a_old a_ahead a_cost a_may a_rest a_way c_n c_rain c_ear c_many c_seed c_taped c_from c_to c_token c_value c_imaged c_gravel c_kind c_own c_rowOf) [(0, .ref a_this), (1, .int v1), (2, .int v2), (3, .int v3), (4, .int x)] Q 46 []) :
    kW p l e rm_R_sure s m args below meth c D A 6 (cells_R_sure cI cL cZ a_this a_gravel a_kind a_own a_likely a_tape a_holding a_rowLength a_rowOf a_refusals a_old a_ahead a_cost a_may a_rest a_way c_n c_rain c_ear c_many c_seed c_taped c_from c_to c_token c_value c_imaged c_gravel c_kind c_own c_rowOf) [(0, .ref a_this), (1, .int v1), (2, .int v2), (3, .int v3), (4, .int v4), (5, .int v5)] Q 16 [] := by
  unfold f_R_sure_l16 at h
  exact iter_W (T := fun sg => kW p l e rm_R_sure s m args below meth c D A 6 (cells_R_sure cI cL cZ a_this a_gravel a_kind a_own a_likely a_tape a_holding a_rowLength a_rowOf a_refusals a_old a_ahead a_cost a_may a_rest a_way c_n c_rain c_ear c_many c_seed c_taped c_from c_to c_token c_value c_imaged c_gravel c_kind c_own c_rowOf) [(0, .ref a_this), (1, .int v1), (2, .int v2), (3, .int v3), (4, .int sg.1), (5, .int sg.2)] Q 16 []) (fun sg y hy hc _ hr => s_R_sure_b16 C hy (fun s' e => hc s' e) (fun r e => by rw [hr r e]; exact k0)) FUEL _ h
set_option maxRecDepth 100000 in
set_option maxHeartbeats 4000000 in
theorem s_R_sure_b2 (C : kC p l e rm_R_sure s m args below meth c D (tyG cI cL cZ) A 6 cX5_sure yX5_sure.cls (Cond.code yX5_sure cX5_sure 6 (some .int) :: WS) (some .int)) {a_this : Nat} {a_gravel : Nat} {a_kind : Nat} {a_own : Nat} {a_likely : Nat} {a_tape : Nat} {a_holding : Nat} {a_rowLength : Nat} {a_rowOf : Nat} {a_refusals : Nat} {a_old : Nat} {a_ahead : Nat} {a_cost : Nat} {a_may : Nat} {a_rest : Nat} {a_way : Nat} {v1 : Int32} {v2 : Int32} {v3 : Int32} {c_n : Int32} {c_rain : Int32} {c_ear : Int32} {c_many : Int32} {c_seed : Int32} {c_taped : Int32} {c_from : Int32} {c_to : Int32} {c_token : Int32} {c_value : Int32} {c_imaged : Int32} {c_gravel : (Nat → Int32)} {c_kind : (Nat → Int32)} {c_own : (Nat → Int32)} {c_rowOf : (Nat → Int64)} {x : (Int32 ⊕ (Int32 ⊕ Unit))} (h : f_R_sure_b2 v1 v2 c_n c_rain c_many c_gravel c_kind c_own c_rowOf v3 = some x)
    (kc : ∀ s', x = .inl s' → kW p l e rm_R_sure s m args below meth c D A 6 (cells_R_sure cI cL cZ a_this a_gravel a_kind a_own a_likely a_tape a_holding a_rowLength a_rowOf a_refusals a_old a_ahead a_cost a_may a_rest a_way c_n c_rain c_ear c_many c_seed c_taped c_from c_to c_token c_value c_imaged c_gravel c_kind c_own c_rowOf) [(0, .ref a_this), (1, .int v1), (2, .int v2), (3, .int s')] Q 2 [])
    (k0 : ∀ r, x = .inr (.inl r) → kW p l e rm_R_sure s m args below meth c D A 6 (cells_R_sure cI cL cZ a_this a_gravel a_kind a_own a_likely a_tape a_holding a_rowLength a_rowOf a_refusals a_old a_ahead a_cost a_may a_rest a_way c_n c_rain c_ear c_many c_seed c_taped c_from c_to c_token c_value c_imaged c_gravel c_kind c_own c_rowOf) [(3, .int r)] Q 52 [])
    (k1 : ∀ r, x = .inr (.inr r) → kW p l e rm_R_sure s m args below meth c D A 6 (cells_R_sure cI cL cZ a_this a_gravel a_kind a_own a_likely a_tape a_holding a_rowLength a_rowOf a_refusals a_old a_ahead a_cost a_may a_rest a_way c_n c_rain c_ear c_many c_seed c_taped c_from c_to c_token c_value c_imaged c_gravel c_kind c_own c_rowOf) [] Q 60 []) :
    kW p l e rm_R_sure s m args below meth c D A 6 (cells_R_sure cI cL cZ a_this a_gravel a_kind a_own a_likely a_tape a_holding a_rowLength a_rowOf a_refusals a_old a_ahead a_cost a_may a_rest a_way c_n c_rain c_ear c_many c_seed c_taped c_from c_to c_token c_value c_imaged c_gravel c_kind c_own c_rowOf) [(0, .ref a_this), (1, .int v1), (2, .int v2), (3, .int v3)] Q 2 [] := by
  unfold f_R_sure_b2 at h
  refine k_iload_n C dX5_sure_2 3 rfl rfl ?_
  refine k_aload_n C dX5_sure_3 0 rfl rfl ?_
  refine k_get C (C0 := RX5) (T := TX5) (N := 26) (fun w h => List.mem_cons_of_mem _ (us_R w h)) 0 rfl rfl 0 (by decide) (List.mem_cons_of_mem _ wq_545) rfl rfl dX5_sure_4 ?_
  refine k_icmp_gt C (tgt := 60) dX5_sure_7 (by decide) (fun c_7 => ?_) (fun c_7 => ?_)
  · have h := ifT c_7 h
    refine k_lv (lv' := []) [] rfl ?_
    exact k1 _ (Option.some.inj h).symm
  · have h := ifF c_7 h
    refine k_iconst C (v := (0 : Int32)) dX5_sure_10 (by decide) ?_
    refine k_istore C (lv' := [(4, .int (0 : Int32)), (0, .ref a_this), (1, .int v1), (2, .int v2), (3, .int v3)]) dX5_sure_11 (by decide) rfl ?_
    refine k_iconst C (v := (0 : Int32)) dX5_sure_13 (by decide) ?_
    refine k_istore C (lv' := [(5, .int (0 : Int32)), (4, .int (0 : Int32)), (0, .ref a_this), (1, .int v1), (2, .int v2), (3, .int v3)]) dX5_sure_14 (by decide) rfl ?_
    obtain ⟨x2, hx2, h⟩ := bindE h
    refine k_lv (lv' := [(0, .ref a_this), (1, .int v1), (2, .int v2), (3, .int v3), (4, .int (0 : Int32)), (5, .int (0 : Int32))]) [2, 3, 4, 5, 1, 0] rfl ?_
    refine s_R_sure_l16 C hx2 ?_
    refine k_iload C dX5_sure_46 4 rfl ?_
    refine k_iconst C (v := (1 : Int32)) dX5_sure_48 (by decide) ?_
    refine k_icmp_ne C (tgt := 54) dX5_sure_49 (by decide) (fun c_49 => ?_) (fun c_49 => ?_)
    · have h := ifF c_49 h
      refine k_iinc C (v := (v3 + (1 : Int32))) (lv' := [(3, .int (v3 + (1 : Int32))), (0, .ref a_this), (1, .int v1), (2, .int v2), (4, .int x2)]) dX5_sure_54 3 rfl rfl (by decide) rfl ?_
      refine k_goto C (tgt := 2) dX5_sure_57 (by decide) ?_
      refine k_lv (lv' := [(0, .ref a_this), (1, .int v1), (2, .int v2), (3, .int (v3 + (1 : Int32)))]) [1, 2, 3, 0] rfl ?_
      exact kc _ (Option.some.inj h).symm
    · have h := ifT c_49 h
      refine k_lv (lv' := [(3, .int v3)]) [3] rfl ?_
      exact k0 _ (Option.some.inj h).symm
set_option maxRecDepth 100000 in
set_option maxHeartbeats 4000000 in
theorem s_R_sure_l2 (C : kC p l e rm_R_sure s m args below meth c D (tyG cI cL cZ) A 6 cX5_sure yX5_sure.cls (Cond.code yX5_sure cX5_sure 6 (some .int) :: WS) (some .int)) {a_this : Nat} {a_gravel : Nat} {a_kind : Nat} {a_own : Nat} {a_likely : Nat} {a_tape : Nat} {a_holding : Nat} {a_rowLength : Nat} {a_rowOf : Nat} {a_refusals : Nat} {a_old : Nat} {a_ahead : Nat} {a_cost : Nat} {a_may : Nat} {a_rest : Nat} {a_way : Nat} {v1 : Int32} {v2 : Int32} {v3 : Int32} {c_n : Int32} {c_rain : Int32} {c_ear : Int32} {c_many : Int32} {c_seed : Int32} {c_taped : Int32} {c_from : Int32} {c_to : Int32} {c_token : Int32} {c_value : Int32} {c_imaged : Int32} {c_gravel : (Nat → Int32)} {c_kind : (Nat → Int32)} {c_own : (Nat → Int32)} {c_rowOf : (Nat → Int64)} {x : (Int32 ⊕ Unit)} (h : f_R_sure_l2 v1 v2 c_n c_rain c_many c_gravel c_kind c_own c_rowOf v3 = some x)
    (k0 : ∀ r, x = (.inl r) → kW p l e rm_R_sure s m args below meth c D A 6 (cells_R_sure cI cL cZ a_this a_gravel a_kind a_own a_likely a_tape a_holding a_rowLength a_rowOf a_refusals a_old a_ahead a_cost a_may a_rest a_way c_n c_rain c_ear c_many c_seed c_taped c_from c_to c_token c_value c_imaged c_gravel c_kind c_own c_rowOf) [(3, .int r)] Q 52 [])
    (k1 : ∀ r, x = (.inr r) → kW p l e rm_R_sure s m args below meth c D A 6 (cells_R_sure cI cL cZ a_this a_gravel a_kind a_own a_likely a_tape a_holding a_rowLength a_rowOf a_refusals a_old a_ahead a_cost a_may a_rest a_way c_n c_rain c_ear c_many c_seed c_taped c_from c_to c_token c_value c_imaged c_gravel c_kind c_own c_rowOf) [] Q 60 []) :
    kW p l e rm_R_sure s m args below meth c D A 6 (cells_R_sure cI cL cZ a_this a_gravel a_kind a_own a_likely a_tape a_holding a_rowLength a_rowOf a_refusals a_old a_ahead a_cost a_may a_rest a_way c_n c_rain c_ear c_many c_seed c_taped c_from c_to c_token c_value c_imaged c_gravel c_kind c_own c_rowOf) [(0, .ref a_this), (1, .int v1), (2, .int v2), (3, .int v3)] Q 2 [] := by
  unfold f_R_sure_l2 at h
  exact iter_W (T := fun sg => kW p l e rm_R_sure s m args below meth c D A 6 (cells_R_sure cI cL cZ a_this a_gravel a_kind a_own a_likely a_tape a_holding a_rowLength a_rowOf a_refusals a_old a_ahead a_cost a_may a_rest a_way c_n c_rain c_ear c_many c_seed c_taped c_from c_to c_token c_value c_imaged c_gravel c_kind c_own c_rowOf) [(0, .ref a_this), (1, .int v1), (2, .int v2), (3, .int sg)] Q 2 []) (fun sg y hy hc _ hr => s_R_sure_b2 C hy (fun s' e => hc s' e) (fun r e => k0 r (hr _ e).symm) (fun r e => k1 r (hr _ e).symm)) FUEL _ h
set_option maxRecDepth 100000 in
set_option maxHeartbeats 4000000 in
theorem s_R_sure (C : kC p l e rm_R_sure s m args below meth c D (tyG cI cL cZ) A 6 cX5_sure yX5_sure.cls (Cond.code yX5_sure cX5_sure 6 (some .int) :: WS) (some .int)) {a_this : Nat} {a_gravel : Nat} {a_kind : Nat} {a_own : Nat} {a_likely : Nat} {a_tape : Nat} {a_holding : Nat} {a_rowLength : Nat} {a_rowOf : Nat} {a_refusals : Nat} {a_old : Nat} {a_ahead : Nat} {a_cost : Nat} {a_may : Nat} {a_rest : Nat} {a_way : Nat} {v1 : Int32} {v2 : Int32} {c_n : Int32} {c_rain : Int32} {c_ear : Int32} {c_many : Int32} {c_seed : Int32} {c_taped : Int32} {c_from : Int32} {c_to : Int32} {c_token : Int32} {c_value : Int32} {c_imaged : Int32} {c_gravel : (Nat → Int32)} {c_kind : (Nat → Int32)} {c_own : (Nat → Int32)} {c_rowOf : (Nat → Int64)} {x : Int32} (h : f_R_sure v1 v2 c_n c_rain c_many c_gravel c_kind c_own c_rowOf = some x) :
    kW p l e rm_R_sure s m args below meth c D A 6 (cells_R_sure cI cL cZ a_this a_gravel a_kind a_own a_likely a_tape a_holding a_rowLength a_rowOf a_refusals a_old a_ahead a_cost a_may a_rest a_way c_n c_rain c_ear c_many c_seed c_taped c_from c_to c_token c_value c_imaged c_gravel c_kind c_own c_rowOf) [(0, .ref a_this), (1, .int v1), (2, .int v2)] (MQ below (kQi D A (cells_R_sure cI cL cZ a_this a_gravel a_kind a_own a_likely a_tape a_holding a_rowLength a_rowOf a_refusals a_old a_ahead a_cost a_may a_rest a_way c_n c_rain c_ear c_many c_seed c_taped c_from c_to c_token c_value c_imaged c_gravel c_kind c_own c_rowOf) x) args s 0 0 A) 0 [] := by
  unfold f_R_sure at h
  refine k_iconst C (v := (1 : Int32)) dX5_sure_0 (by decide) ?_
  refine k_istore_n C (lv' := [(3, .int (1 : Int32)), (0, .ref a_this), (1, .int v1), (2, .int v2)]) dX5_sure_1 rfl (by decide) rfl ?_
  obtain ⟨x3, hx3, h⟩ := bindE h
  refine k_lv (lv' := [(0, .ref a_this), (1, .int v1), (2, .int v2), (3, .int (1 : Int32))]) [1, 2, 3, 0] rfl ?_
  refine s_R_sure_l2 C hx3 ?_ ?_
  · intro x4 ex4
    subst ex4
    have h := sumL h
    refine k_iload_n C dX5_sure_52 0 rfl rfl ?_
    obtain rfl := Option.some.inj h
    exact kret_i C rfl dX5_sure_53
  · intro x5 ex5
    subst ex5
    have h := sumR h
    refine k_iconst C (v := (-1 : Int32)) dX5_sure_60 (by decide) ?_
    obtain rfl := Option.some.inj h
    exact kret_i C rfl dX5_sure_61

variable {p : Program} {l : Launch} {e : Env} {s : State} {m : MethodId} {args : Array Value} {below : List Frame} {meth : Method} {c : Code} {D : va_G} {A : Nat → Prop} {cI cL cZ : ClassId} {Q : State → Prop}
set_option maxRecDepth 100000 in
set_option maxHeartbeats 4000000 in
theorem s_R_first_b22 (C : kC p l e rm_R_first s m args below meth c D (tyG cI cL cZ) A 3 cX5_first yX5_first.cls (Cond.code yX5_first cX5_first 3 none :: WS) none) {a_this : Nat} {a_gravel : Nat} {a_kind : Nat} {a_own : Nat} {a_likely : Nat} {a_tape : Nat} {a_holding : Nat} {a_rowLength : Nat} {a_rowOf : Nat} {a_refusals : Nat} {a_old : Nat} {a_ahead : Nat} {a_cost : Nat} {a_may : Nat} {a_rest : Nat} {a_way : Nat} {v1 : Int32} {v2 : Int32} {c_n : Int32} {c_rain : Int32} {c_ear : Int32} {c_many : Int32} {c_seed : Int32} {c_taped : Int32} {c_from : Int32} {c_to : Int32} {c_token : Int32} {c_value : Int32} {c_imaged : Int32} {c_may : (Nat → Int32)} {c_rest : (Nat → Int32)} {c_way : (Nat → Int32)} {x : (Int32 ⊕ Int32)} (h : f_R_first_b22 v1 c_n c_rest c_way v2 = some x)
    (kc : ∀ s', x = .inl s' → kW p l e rm_R_first s m args below meth c D A 3 (cells_R_first cI cL cZ a_this a_gravel a_kind a_own a_likely a_tape a_holding a_rowLength a_rowOf a_refusals a_old a_ahead a_cost a_may a_rest a_way c_n c_rain c_ear c_many c_seed c_taped c_from c_to c_token c_value c_imaged c_may c_rest c_way) [(0, .ref a_this), (1, .int v1), (2, .int s')] Q 22 [])
    (k0 : ∀ r, x = .inr r → kW p l e rm_R_first s m args below meth c D A 3 (cells_R_first cI cL cZ a_this a_gravel a_kind a_own a_likely a_tape a_holding a_rowLength a_rowOf a_refusals a_old a_ahead a_cost a_may a_rest a_way c_n c_rain c_ear c_many c_seed c_taped c_from c_to c_token c_value c_imaged c_may c_rest c_way) [(0, .ref a_this), (1, .int v1), (2, .int r)] Q 57 []) :
    kW p l e rm_R_first s m args below meth c D A 3 (cells_R_first cI cL cZ a_this a_gravel a_kind a_own a_likely a_tape a_holding a_rowLength a_rowOf a_refusals a_old a_ahead a_cost a_may a_rest a_way c_n c_rain c_ear c_many c_seed c_taped c_from c_to c_token c_value c_imaged c_may c_rest c_way) [(0, .ref a_this), (1, .int v1), (2, .int v2)] Q 22 [] := by
  unfold f_R_first_b22 at h
  refine k_aload_n C dX5_first_22 0 rfl rfl ?_
  refine k_get C (C0 := RX5) (T := TX5) (N := 26) (fun w h => List.mem_cons_of_mem _ (us_R w h)) 0 rfl rfl 24 (by decide) (List.mem_cons_of_mem _ wq_664) rfl rfl dX5_first_23 ?_
  refine k_iload_n C dX5_first_26 2 rfl rfl ?_
  obtain ⟨x2, hx2, h⟩ := bindE h
  refine k_iald C 2 0 rfl rfl hx2 dX5_first_27 ?_
  refine k_if_eq C (tgt := 51) dX5_first_28 (by decide) (fun c_28 => ?_) (fun c_28 => ?_)
  · have h := ifT c_28 h
    refine k_iinc C (v := (v2 + (1 : Int32))) (lv' := [(2, .int (v2 + (1 : Int32))), (0, .ref a_this), (1, .int v1)]) dX5_first_51 2 rfl rfl (by decide) rfl ?_
    refine k_goto C (tgt := 22) dX5_first_54 (by decide) ?_
    refine k_lv (lv' := [(0, .ref a_this), (1, .int v1), (2, .int (v2 + (1 : Int32)))]) [1, 2, 0] rfl ?_
    exact kc _ (Option.some.inj h).symm
  · have h := ifF c_28 h
    refine k_iload_n C dX5_first_31 1 rfl rfl ?_
    refine k_if_le C (tgt := 57) dX5_first_32 (by decide) (fun c_32 => ?_) (fun c_32 => ?_)
    · have h := ifT c_32 h
      exact k0 _ (Option.some.inj h).symm
    · have h := ifF c_32 h
      refine k_aload_n C dX5_first_35 0 rfl rfl ?_
      refine k_aload_n C dX5_first_36 0 rfl rfl ?_
      refine k_get C (C0 := RX5) (T := TX5) (N := 26) (fun w h => List.mem_cons_of_mem _ (us_R w h)) 0 rfl rfl 25 (by decide) (List.mem_cons_of_mem _ wq_673) rfl rfl dX5_first_37 ?_
      refine k_iload_n C dX5_first_40 1 rfl rfl ?_
      refine k_iconst C (v := (1 : Int32)) dX5_first_41 (by decide) ?_
      refine k_isub C dX5_first_42 ?_
      obtain ⟨x3, hx3, h⟩ := bindE h
      refine k_iald C 3 0 rfl rfl hx3 dX5_first_43 ?_
      refine k_iload_n C dX5_first_44 2 rfl rfl ?_
      obtain ⟨x4, hx4, h⟩ := bindE h
      refine kcallR_i C (wc := (cells_R_isNext cI cL cZ a_this a_gravel a_kind a_own a_likely a_tape a_holding a_rowLength a_rowOf a_refusals a_old a_ahead a_cost a_may a_rest a_way c_n c_rain c_ear c_many c_seed c_taped c_from c_to c_token c_value c_imaged)) (r := x4) [0] (fun H locs ls hP hD hS hF hz => krunV C (q0 := 0) (ci := 5) (c_R_isNext l D cI cL cZ H.size a_this a_gravel a_kind a_own a_likely a_tape a_holding a_rowLength a_rowOf a_refusals a_old a_ahead a_cost a_may a_rest a_way x3 v2 c_n c_rain c_ear c_many c_seed c_taped c_from c_to c_token c_value c_imaged x4 hx4) (cwV 2 C.2.2.2.2.1 (gV wq_666 wq_667 wq_668 wq_551 wq_665) rfl rfl rfl (by decide +kernel) ⟨(Nat.le_of_ble_eq_true rfl), (Nat.le_of_ble_eq_true rfl)⟩) rfl rfl kEnv_T rfl rfl (Nat.le_of_ble_eq_true rfl) dX5_first_45 hP hD hz) rfl (by decide) ?_
      refine k_if_ne C (tgt := 57) dX5_first_48 (by decide) (fun c_48 => ?_) (fun c_48 => ?_)
      · have h := ifF c_48 h
        exact k0 _ (Option.some.inj h).symm
      · have h := ifT c_48 h
        refine k_iinc C (v := (v2 + (1 : Int32))) (lv' := [(2, .int (v2 + (1 : Int32))), (0, .ref a_this), (1, .int v1)]) dX5_first_51 2 rfl rfl (by decide) rfl ?_
        refine k_goto C (tgt := 22) dX5_first_54 (by decide) ?_
        refine k_lv (lv' := [(0, .ref a_this), (1, .int v1), (2, .int (v2 + (1 : Int32)))]) [1, 2, 0] rfl ?_
        exact kc _ (Option.some.inj h).symm
set_option maxRecDepth 100000 in
set_option maxHeartbeats 4000000 in
theorem s_R_first_l22 (C : kC p l e rm_R_first s m args below meth c D (tyG cI cL cZ) A 3 cX5_first yX5_first.cls (Cond.code yX5_first cX5_first 3 none :: WS) none) {a_this : Nat} {a_gravel : Nat} {a_kind : Nat} {a_own : Nat} {a_likely : Nat} {a_tape : Nat} {a_holding : Nat} {a_rowLength : Nat} {a_rowOf : Nat} {a_refusals : Nat} {a_old : Nat} {a_ahead : Nat} {a_cost : Nat} {a_may : Nat} {a_rest : Nat} {a_way : Nat} {v1 : Int32} {v2 : Int32} {c_n : Int32} {c_rain : Int32} {c_ear : Int32} {c_many : Int32} {c_seed : Int32} {c_taped : Int32} {c_from : Int32} {c_to : Int32} {c_token : Int32} {c_value : Int32} {c_imaged : Int32} {c_may : (Nat → Int32)} {c_rest : (Nat → Int32)} {c_way : (Nat → Int32)} {x : Int32} (h : f_R_first_l22 v1 c_n c_rest c_way v2 = some x)
    (k0 : kW p l e rm_R_first s m args below meth c D A 3 (cells_R_first cI cL cZ a_this a_gravel a_kind a_own a_likely a_tape a_holding a_rowLength a_rowOf a_refusals a_old a_ahead a_cost a_may a_rest a_way c_n c_rain c_ear c_many c_seed c_taped c_from c_to c_token c_value c_imaged c_may c_rest c_way) [(0, .ref a_this), (1, .int v1), (2, .int x)] Q 57 []) :
    kW p l e rm_R_first s m args below meth c D A 3 (cells_R_first cI cL cZ a_this a_gravel a_kind a_own a_likely a_tape a_holding a_rowLength a_rowOf a_refusals a_old a_ahead a_cost a_may a_rest a_way c_n c_rain c_ear c_many c_seed c_taped c_from c_to c_token c_value c_imaged c_may c_rest c_way) [(0, .ref a_this), (1, .int v1), (2, .int v2)] Q 22 [] := by
  unfold f_R_first_l22 at h
  exact iter_W (body := fun s => f_R_first_b22 v1 c_n c_rest c_way s) (r := x) (T := fun sg => kW p l e rm_R_first s m args below meth c D A 3 (cells_R_first cI cL cZ a_this a_gravel a_kind a_own a_likely a_tape a_holding a_rowLength a_rowOf a_refusals a_old a_ahead a_cost a_may a_rest a_way c_n c_rain c_ear c_many c_seed c_taped c_from c_to c_token c_value c_imaged c_may c_rest c_way) [(0, .ref a_this), (1, .int v1), (2, .int sg)] Q 22 []) (fun sg y hy hc _ hr => s_R_first_b22 C (v1 := v1) (v2 := sg) (c_n := c_n) (c_rain := c_rain) (c_ear := c_ear) (c_many := c_many) (c_seed := c_seed) (c_taped := c_taped) (c_from := c_from) (c_to := c_to) (c_token := c_token) (c_value := c_value) (c_imaged := c_imaged) (c_may := c_may) (c_rest := c_rest) (c_way := c_way) (x := y) hy hc (fun r e => by rw [hr r e]; exact k0)) FUEL v2 h
set_option maxRecDepth 100000 in
set_option maxHeartbeats 4000000 in
theorem s_R_first_b7 (C : kC p l e rm_R_first s m args below meth c D (tyG cI cL cZ) A 3 cX5_first yX5_first.cls (Cond.code yX5_first cX5_first 3 none :: WS) none) {a_this : Nat} {a_gravel : Nat} {a_kind : Nat} {a_own : Nat} {a_likely : Nat} {a_tape : Nat} {a_holding : Nat} {a_rowLength : Nat} {a_rowOf : Nat} {a_refusals : Nat} {a_old : Nat} {a_ahead : Nat} {a_cost : Nat} {a_may : Nat} {a_rest : Nat} {a_way : Nat} {v1 : Int32} {c_n : Int32} {c_rain : Int32} {c_ear : Int32} {c_many : Int32} {c_seed : Int32} {c_taped : Int32} {c_from : Int32} {c_to : Int32} {c_token : Int32} {c_value : Int32} {c_imaged : Int32} {c_may : (Nat → Int32)} {c_rest : (Nat → Int32)} {c_way : (Nat → Int32)} {x : ((Int32 × (Nat → Int32)) ⊕ (Nat → Int32))} (h : f_R_first_b7 c_n c_rest v1 c_way = some x)
    (kc : ∀ s', x = .inl s' → kW p l e rm_R_first s m args below meth c D A 3 (cells_R_first cI cL cZ a_this a_gravel a_kind a_own a_likely a_tape a_holding a_rowLength a_rowOf a_refusals a_old a_ahead a_cost a_may a_rest a_way c_n c_rain c_ear c_many c_seed c_taped c_from c_to c_token c_value c_imaged c_may c_rest s'.2) [(0, .ref a_this), (1, .int s'.1)] Q 7 [])
    (k0 : ∀ r, x = .inr r → kW p l e rm_R_first s m args below meth c D A 3 (cells_R_first cI cL cZ a_this a_gravel a_kind a_own a_likely a_tape a_holding a_rowLength a_rowOf a_refusals a_old a_ahead a_cost a_may a_rest a_way c_n c_rain c_ear c_many c_seed c_taped c_from c_to c_token c_value c_imaged c_may c_rest r) [] Q 70 []) :
    kW p l e rm_R_first s m args below meth c D A 3 (cells_R_first cI cL cZ a_this a_gravel a_kind a_own a_likely a_tape a_holding a_rowLength a_rowOf a_refusals a_old a_ahead a_cost a_may a_rest a_way c_n c_rain c_ear c_many c_seed c_taped c_from c_to c_token c_value c_imaged c_may c_rest c_way) [(0, .ref a_this), (1, .int v1)] Q 7 [] := by
  unfold f_R_first_b7 at h
  refine k_iload_n C dX5_first_7 1 rfl rfl ?_
  refine k_aload_n C dX5_first_8 0 rfl rfl ?_
  refine k_get C (C0 := RX5) (T := TX5) (N := 26) (fun w h => List.mem_cons_of_mem _ (us_R w h)) 0 rfl rfl 0 (by decide) (List.mem_cons_of_mem _ wq_552) rfl rfl dX5_first_9 ?_
  refine k_icmp_ge C (tgt := 70) dX5_first_12 (by decide) (fun c_12 => ?_) (fun c_12 => ?_)
  · have h := ifT c_12 h
    refine k_lv (lv' := []) [] rfl ?_
    exact k0 _ (Option.some.inj h).symm
  · have h := ifF c_12 h
    refine k_iload_n C dX5_first_15 1 rfl rfl ?_
    refine k_aload_n C dX5_first_16 0 rfl rfl ?_
    refine k_get C (C0 := RX5) (T := TX5) (N := 26) (fun w h => List.mem_cons_of_mem _ (us_R w h)) 0 rfl rfl 0 (by decide) (List.mem_cons_of_mem _ wq_552) rfl rfl dX5_first_17 ?_
    refine k_imul C dX5_first_20 ?_
    refine k_istore_n C (lv' := [(2, .int (v1 * c_n)), (0, .ref a_this), (1, .int v1)]) dX5_first_21 rfl (by decide) rfl ?_
    obtain ⟨x5, hx5, h⟩ := bindE h
    refine k_lv (lv' := [(0, .ref a_this), (1, .int v1), (2, .int (v1 * c_n))]) [1, 2, 0] rfl ?_
    refine s_R_first_l22 C hx5 ?_
    refine k_aload_n C dX5_first_57 0 rfl rfl ?_
    refine k_get C (C0 := RX5) (T := TX5) (N := 26) (fun w h => List.mem_cons_of_mem _ (us_R w h)) 0 rfl rfl 25 (by decide) (List.mem_cons_of_mem _ wq_673) rfl rfl dX5_first_58 ?_
    refine k_iload_n C dX5_first_61 1 rfl rfl ?_
    refine k_iload_n C dX5_first_62 2 rfl rfl ?_
    obtain ⟨x6, hx6, h⟩ := bindE h
    refine k_iast C 3 0 (ws' := (cells_R_first cI cL cZ a_this a_gravel a_kind a_own a_likely a_tape a_holding a_rowLength a_rowOf a_refusals a_old a_ahead a_cost a_may a_rest a_way c_n c_rain c_ear c_many c_seed c_taped c_from c_to c_token c_value c_imaged c_may c_rest x6)) rfl rfl hx6 rfl dX5_first_63 ?_
    refine k_iinc C (v := (v1 + (1 : Int32))) (lv' := [(1, .int (v1 + (1 : Int32))), (0, .ref a_this), (2, .int x5)]) dX5_first_64 1 rfl rfl (by decide) rfl ?_
    refine k_goto C (tgt := 7) dX5_first_67 (by decide) ?_
    refine k_lv (lv' := [(0, .ref a_this), (1, .int (v1 + (1 : Int32)))]) [1, 0] rfl ?_
    exact kc _ (Option.some.inj h).symm
set_option maxRecDepth 100000 in
set_option maxHeartbeats 4000000 in
theorem s_R_first_l7 (C : kC p l e rm_R_first s m args below meth c D (tyG cI cL cZ) A 3 cX5_first yX5_first.cls (Cond.code yX5_first cX5_first 3 none :: WS) none) {a_this : Nat} {a_gravel : Nat} {a_kind : Nat} {a_own : Nat} {a_likely : Nat} {a_tape : Nat} {a_holding : Nat} {a_rowLength : Nat} {a_rowOf : Nat} {a_refusals : Nat} {a_old : Nat} {a_ahead : Nat} {a_cost : Nat} {a_may : Nat} {a_rest : Nat} {a_way : Nat} {v1 : Int32} {c_n : Int32} {c_rain : Int32} {c_ear : Int32} {c_many : Int32} {c_seed : Int32} {c_taped : Int32} {c_from : Int32} {c_to : Int32} {c_token : Int32} {c_value : Int32} {c_imaged : Int32} {c_may : (Nat → Int32)} {c_rest : (Nat → Int32)} {c_way : (Nat → Int32)} {x : (Nat → Int32)} (h : f_R_first_l7 c_n c_rest v1 c_way = some x)
    (k0 : kW p l e rm_R_first s m args below meth c D A 3 (cells_R_first cI cL cZ a_this a_gravel a_kind a_own a_likely a_tape a_holding a_rowLength a_rowOf a_refusals a_old a_ahead a_cost a_may a_rest a_way c_n c_rain c_ear c_many c_seed c_taped c_from c_to c_token c_value c_imaged c_may c_rest x) [] Q 70 []) :
    kW p l e rm_R_first s m args below meth c D A 3 (cells_R_first cI cL cZ a_this a_gravel a_kind a_own a_likely a_tape a_holding a_rowLength a_rowOf a_refusals a_old a_ahead a_cost a_may a_rest a_way c_n c_rain c_ear c_many c_seed c_taped c_from c_to c_token c_value c_imaged c_may c_rest c_way) [(0, .ref a_this), (1, .int v1)] Q 7 [] := by
  unfold f_R_first_l7 at h
  exact iter_W (body := fun s => f_R_first_b7 c_n c_rest s.1 s.2) (r := x) (T := fun sg => kW p l e rm_R_first s m args below meth c D A 3 (cells_R_first cI cL cZ a_this a_gravel a_kind a_own a_likely a_tape a_holding a_rowLength a_rowOf a_refusals a_old a_ahead a_cost a_may a_rest a_way c_n c_rain c_ear c_many c_seed c_taped c_from c_to c_token c_value c_imaged c_may c_rest sg.2) [(0, .ref a_this), (1, .int sg.1)] Q 7 []) (fun sg y hy hc _ hr => s_R_first_b7 C (v1 := sg.1) (c_n := c_n) (c_rain := c_rain) (c_ear := c_ear) (c_many := c_many) (c_seed := c_seed) (c_taped := c_taped) (c_from := c_from) (c_to := c_to) (c_token := c_token) (c_value := c_value) (c_imaged := c_imaged) (c_may := c_may) (c_rest := c_rest) (c_way := sg.2) (x := y) hy hc (fun r e => by rw [hr r e]; exact k0)) FUEL (v1, c_way) h
set_option maxRecDepth 100000 in
set_option maxHeartbeats 4000000 in
theorem s_R_first (C : kC p l e rm_R_first s m args below meth c D (tyG cI cL cZ) A 3 cX5_first yX5_first.cls (Cond.code yX5_first cX5_first 3 none :: WS) none) {a_this : Nat} {a_gravel : Nat} {a_kind : Nat} {a_own : Nat} {a_likely : Nat} {a_tape : Nat} {a_holding : Nat} {a_rowLength : Nat} {a_rowOf : Nat} {a_refusals : Nat} {a_old : Nat} {a_ahead : Nat} {a_cost : Nat} {a_may : Nat} {a_rest : Nat} {a_way : Nat} {c_n : Int32} {c_rain : Int32} {c_ear : Int32} {c_many : Int32} {c_seed : Int32} {c_taped : Int32} {c_from : Int32} {c_to : Int32} {c_token : Int32} {c_value : Int32} {c_imaged : Int32} {c_may : (Nat → Int32)} {c_rest : (Nat → Int32)} {c_way : (Nat → Int32)} {x : ((Nat → Int32) × (Nat → Int32))} (h : f_R_first c_n c_may c_rest c_way = some x) :
    kW p l e rm_R_first s m args below meth c D A 3 (cells_R_first cI cL cZ a_this a_gravel a_kind a_own a_likely a_tape a_holding a_rowLength a_rowOf a_refusals a_old a_ahead a_cost a_may a_rest a_way c_n c_rain c_ear c_many c_seed c_taped c_from c_to c_token c_value c_imaged c_may c_rest c_way) [(0, .ref a_this)] (MQ below (kQv D A (cells_R_first cI cL cZ a_this a_gravel a_kind a_own a_likely a_tape a_holding a_rowLength a_rowOf a_refusals a_old a_ahead a_cost a_may a_rest a_way c_n c_rain c_ear c_many c_seed c_taped c_from c_to c_token c_value c_imaged c_may x.1 x.2)) args s 0 0 A) 0 [] := by
  unfold f_R_first at h
  refine k_aload_n C dX5_first_0 0 rfl rfl ?_
  obtain ⟨x1, hx1, h⟩ := bindE h
  refine kcallU_i C (wc := (cells_R_count cI cL cZ a_this a_gravel a_kind a_own a_likely a_tape a_holding a_rowLength a_rowOf a_refusals a_old a_ahead a_cost a_may a_rest a_way c_n c_rain c_ear c_many c_seed c_taped c_from c_to c_token c_value c_imaged c_may c_rest)) (w1 := (cells_R_count cI cL cZ a_this a_gravel a_kind a_own a_likely a_tape a_holding a_rowLength a_rowOf a_refusals a_old a_ahead a_cost a_may a_rest a_way c_n c_rain c_ear c_many c_seed c_taped c_from c_to c_token c_value c_imaged c_may x1.2)) (ws' := (cells_R_first cI cL cZ a_this a_gravel a_kind a_own a_likely a_tape a_holding a_rowLength a_rowOf a_refusals a_old a_ahead a_cost a_may a_rest a_way c_n c_rain c_ear c_many c_seed c_taped c_from c_to c_token c_value c_imaged c_may x1.2 c_way)) (r := x1.1) [0, 1, 2] (fun H locs ls hP hD hS hF hz => krunV C (q0 := 0) (ci := 5) (c_R_count l D cI cL cZ H.size a_this a_gravel a_kind a_own a_likely a_tape a_holding a_rowLength a_rowOf a_refusals a_old a_ahead a_cost a_may a_rest a_way c_n c_rain c_ear c_many c_seed c_taped c_from c_to c_token c_value c_imaged c_may c_rest x1 hx1) (cwV 0 C.2.2.2.2.1 (gV wq_670 wq_671 wq_672 wq_551 wq_669) rfl rfl rfl (by decide +kernel) ⟨(Nat.le_of_ble_eq_true rfl), (Nat.le_of_ble_eq_true rfl)⟩) rfl rfl kEnv_T rfl rfl (Nat.le_of_ble_eq_true rfl) dX5_first_1 hP hD hz) rfl (by decide) rfl rfl ?_
  refine k_pop C dX5_first_4 rfl ?_
  refine k_iconst C (v := (0 : Int32)) dX5_first_5 (by decide) ?_
  refine k_istore_n C (lv' := [(1, .int (0 : Int32)), (0, .ref a_this)]) dX5_first_6 rfl (by decide) rfl ?_
  obtain ⟨x7, hx7, h⟩ := bindE h
  refine k_lv (lv' := [(0, .ref a_this), (1, .int (0 : Int32))]) [1, 0] rfl ?_
  refine s_R_first_l7 C hx7 ?_
  obtain rfl := Option.some.inj h
  exact kret_v C rfl dX5_first_70
theorem c_R_first (l : Launch) (D : va_G) (cI : ClassId) (cL : ClassId) (cZ : ClassId) (sz : Nat) (a_this : Nat) (a_gravel : Nat) (a_kind : Nat) (a_own : Nat) (a_likely : Nat) (a_tape : Nat) (a_holding : Nat) (a_rowLength : Nat) (a_rowOf : Nat) (a_refusals : Nat) (a_old : Nat) (a_ahead : Nat) (a_cost : Nat) (a_may : Nat) (a_rest : Nat) (a_way : Nat) (c_n : Int32) (c_rain : Int32) (c_ear : Int32) (c_many : Int32) (c_seed : Int32) (c_taped : Int32) (c_from : Int32) (c_to : Int32) (c_token : Int32) (c_value : Int32) (c_imaged : Int32) (c_may : (Nat → Int32)) (c_rest : (Nat → Int32)) (c_way : (Nat → Int32)) (x : ((Nat → Int32) × (Nat → Int32))) (h : f_R_first c_n c_may c_rest c_way = some x) :
    Met l yX5_first (Cond.code yX5_first cX5_first 3 none :: WS) rm_R_first (kP D (tyG cI cL cZ) kTrue [.ref a_this] sz (cells_R_first cI cL cZ a_this a_gravel a_kind a_own a_likely a_tape a_holding a_rowLength a_rowOf a_refusals a_old a_ahead a_cost a_may a_rest a_way c_n c_rain c_ear c_many c_seed c_taped c_from c_to c_token c_value c_imaged c_may c_rest c_way)) (kQv D (va_A (cells_R_first cI cL cZ a_this a_gravel a_kind a_own a_likely a_tape a_holding a_rowLength a_rowOf a_refusals a_old a_ahead a_cost a_may a_rest a_way c_n c_rain c_ear c_many c_seed c_taped c_from c_to c_token c_value c_imaged c_may c_rest c_way) sz) (cells_R_first cI cL cZ a_this a_gravel a_kind a_own a_likely a_tape a_holding a_rowLength a_rowOf a_refusals a_old a_ahead a_cost a_may a_rest a_way c_n c_rain c_ear c_many c_seed c_taped c_from c_to c_token c_value c_imaged c_may x.1 x.2)) 0 0 (va_A (cells_R_first cI cL cZ a_this a_gravel a_kind a_own a_likely a_tape a_holding a_rowLength a_rowOf a_refusals a_old a_ahead a_cost a_may a_rest a_way c_n c_rain c_ear c_many c_seed c_taped c_from c_to c_token c_value c_imaged c_may c_rest c_way) sz) :=
  kmet (by decide) (Nat.le_of_ble_eq_true rfl) rfl (fun p e s m below meth c C hE => s_R_first C h)
abbrev cells_R_sums (cI : ClassId) (cL : ClassId) (cZ : ClassId) (a_this : Nat) (a_gravel : Nat) (a_kind : Nat) (a_own : Nat) (a_likely : Nat) (a_tape : Nat) (a_holding : Nat) (a_rowLength : Nat) (a_rowOf : Nat) (a_refusals : Nat) (a_old : Nat) (a_ahead : Nat) (a_cost : Nat) (a_may : Nat) (a_rest : Nat) (a_way : Nat) (c_n : Int32) (c_rain : Int32) (c_ear : Int32) (c_many : Int32) (c_seed : Int32) (c_taped : Int32) (c_from : Int32) (c_to : Int32) (c_token : Int32) (c_value : Int32) (c_imaged : Int32) (c_cost : (Nat → Int32)) (c_rest : (Nat → Int32)) (c_way : (Nat → Int32)) : va_W := [(a_this, .inr (5, [.int c_n, .ref a_gravel, .int c_rain, .int c_ear, .int c_many, .ref a_kind, .ref a_own, .ref a_likely, .int c_seed, .int c_taped, .ref a_tape, .int c_from, .int c_to, .int c_token, .int c_value, .ref a_holding, .ref a_rowLength, .ref a_rowOf, .ref a_refusals, .int c_imaged, .ref a_old, .ref a_ahead, .ref a_cost, .ref a_may, .ref a_rest, .ref a_way])), (a_cost, .inl (cI, 36, .inl c_cost)), (a_rest, .inl (cI, 36, .inl c_rest)), (a_way, .inl (cI, 6, .inl c_way))]
abbrev rm_R_sums : Room := { frames := 2, cells := 0, slots := 0, locals := 54 }
set_option maxRecDepth 100000 in
set_option maxHeartbeats 4000000 in
theorem s_R_sums_j81 (C : kC p l e rm_R_sums s m args below meth c D (tyG cI cL cZ) A 5 cX5_sums yX5_sums.cls (Cond.code yX5_sums cX5_sums 5 (some .int) :: WS) (some .int)) {a_this : Nat} {a_gravel : Nat} {a_kind : Nat} {a_own : Nat} {a_likely : Nat} {a_tape : Nat} {a_holding : Nat} {a_rowLength : Nat} {a_rowOf : Nat} {a_refusals : Nat} {a_old : Nat} {a_ahead : Nat} {a_cost : Nat} {a_may : Nat} {a_rest : Nat} {a_way : Nat} {v1 : Int32} {v2 : Int32} {v4 : Int32} {c_n : Int32} {c_rain : Int32} {c_ear : Int32} {c_many : Int32} {c_seed : Int32} {c_taped : Int32} {c_from : Int32} {c_to : Int32} {c_token : Int32} {c_value : Int32} {c_imaged : Int32} {c_cost : (Nat → Int32)} {c_rest : (Nat → Int32)} {c_way : (Nat → Int32)} {x : ((Int32 × Int32 × (Nat → Int32)) ⊕ (Nat → Int32))} (h : f_R_sums_j81 v2 v4 c_rest = some x)
    (kc : ∀ s', x = .inl s' → kW p l e rm_R_sums s m args below meth c D A 5 (cells_R_sums cI cL cZ a_this a_gravel a_kind a_own a_likely a_tape a_holding a_rowLength a_rowOf a_refusals a_old a_ahead a_cost a_may a_rest a_way c_n c_rain c_ear c_many c_seed c_taped c_from c_to c_token c_value c_imaged c_cost s'.2.2 c_way) [(0, .ref a_this), (1, .int v1), (2, .int v2), (3, .int s'.1), (4, .int s'.2.1)] Q 30 [])
    (k0 : ∀ r, x = .inr r → kW p l e rm_R_sums s m args below meth c D A 5 (cells_R_sums cI cL cZ a_this a_gravel a_kind a_own a_likely a_tape a_holding a_rowLength a_rowOf a_refusals a_old a_ahead a_cost a_may a_rest a_way c_n c_rain c_ear c_many c_seed c_taped c_from c_to c_token c_value c_imaged c_cost r c_way) [(0, .ref a_this), (1, .int v1), (2, .int v2)] Q 102 []) :
    kW p l e rm_R_sums s m args below meth c D A 5 (cells_R_sums cI cL cZ a_this a_gravel a_kind a_own a_likely a_tape a_holding a_rowLength a_rowOf a_refusals a_old a_ahead a_cost a_may a_rest a_way c_n c_rain c_ear c_many c_seed c_taped c_from c_to c_token c_value c_imaged c_cost c_rest c_way) [(0, .ref a_this), (1, .int v1), (2, .int v2), (4, .int v4)] Q 81 [] := by
  unfold f_R_sums_j81 at h
  refine k_aload_n C dX5_sums_81 0 rfl rfl ?_
  refine k_get C (C0 := RX5) (T := TX5) (N := 26) (fun w h => List.mem_cons_of_mem _ (us_R w h)) 0 rfl rfl 24 (by decide) (List.mem_cons_of_mem _ wq_664) rfl rfl dX5_sums_82 ?_
  refine k_iload_n C dX5_sums_85 2 rfl rfl ?_
  refine k_aload_n C dX5_sums_86 0 rfl rfl ?_
  refine k_get C (C0 := RX5) (T := TX5) (N := 26) (fun w h => List.mem_cons_of_mem _ (us_R w h)) 0 rfl rfl 24 (by decide) (List.mem_cons_of_mem _ wq_664) rfl rfl dX5_sums_87 ?_
  refine k_iload C dX5_sums_90 3 rfl ?_
  obtain ⟨x3, hx3, h⟩ := bindE h
  refine k_iald C 2 0 rfl rfl hx3 dX5_sums_92 ?_
  obtain ⟨x4, hx4, h⟩ := bindE h
  refine k_iast C 2 0 (ws' := (cells_R_sums cI cL cZ a_this a_gravel a_kind a_own a_likely a_tape a_holding a_rowLength a_rowOf a_refusals a_old a_ahead a_cost a_may a_rest a_way c_n c_rain c_ear c_many c_seed c_taped c_from c_to c_token c_value c_imaged c_cost x4 c_way)) rfl rfl hx4 rfl dX5_sums_93 ?_
  refine k_iconst C (v := (1 : Int32)) dX5_sums_94 (by decide) ?_
  refine k_istore_n C (lv' := [(3, .int (1 : Int32)), (0, .ref a_this), (1, .int v1), (2, .int v2), (4, .int v4)]) dX5_sums_95 rfl (by decide) rfl ?_
  refine k_iinc C (v := (v4 + (1 : Int32))) (lv' := [(4, .int (v4 + (1 : Int32))), (3, .int (1 : Int32)), (0, .ref a_this), (1, .int v1), (2, .int v2)]) dX5_sums_96 4 rfl rfl (by decide) rfl ?_
  refine k_goto C (tgt := 30) dX5_sums_99 (by decide) ?_
  refine k_lv (lv' := [(0, .ref a_this), (1, .int v1), (2, .int v2), (3, .int (1 : Int32)), (4, .int (v4 + (1 : Int32)))]) [2, 3, 4, 1, 0] rfl ?_
  exact kc _ (Option.some.inj h).symm
set_option maxRecDepth 100000 in
set_option maxHeartbeats 4000000 in
theorem s_R_sums_b30 (C : kC p l e rm_R_sums s m args below meth c D (tyG cI cL cZ) A 5 cX5_sums yX5_sums.cls (Cond.code yX5_sums cX5_sums 5 (some .int) :: WS) (some .int)) {a_this : Nat} {a_gravel : Nat} {a_kind : Nat} {a_own : Nat} {a_likely : Nat} {a_tape : Nat} {a_holding : Nat} {a_rowLength : Nat} {a_rowOf : Nat} {a_refusals : Nat} {a_old : Nat} {a_ahead : Nat} {a_cost : Nat} {a_may : Nat} {a_rest : Nat} {a_way : Nat} {v1 : Int32} {v2 : Int32} {v3 : Int32} {v4 : Int32} {c_n : Int32} {c_rain : Int32} {c_ear : Int32} {c_many : Int32} {c_seed : Int32} {c_taped : Int32} {c_from : Int32} {c_to : Int32} {c_token : Int32} {c_value : Int32} {c_imaged : Int32} {c_cost : (Nat → Int32)} {c_rest : (Nat → Int32)} {c_way : (Nat → Int32)} {x : ((Int32 × Int32 × (Nat → Int32)) ⊕ (Nat → Int32))} (h : f_R_sums_b30 v1 v2 c_n v3 v4 c_rest = some x)
    (kc : ∀ s', x = .inl s' → kW p l e rm_R_sums s m args below meth c D A 5 (cells_R_sums cI cL cZ a_this a_gravel a_kind a_own a_likely a_tape a_holding a_rowLength a_rowOf a_refusals a_old a_ahead a_cost a_may a_rest a_way c_n c_rain c_ear c_many c_seed c_taped c_from c_to c_token c_value c_imaged c_cost s'.2.2 c_way) [(0, .ref a_this), (1, .int v1), (2, .int v2), (3, .int s'.1), (4, .int s'.2.1)] Q 30 [])
    (k0 : ∀ r, x = .inr r → kW p l e rm_R_sums s m args below meth c D A 5 (cells_R_sums cI cL cZ a_this a_gravel a_kind a_own a_likely a_tape a_holding a_rowLength a_rowOf a_refusals a_old a_ahead a_cost a_may a_rest a_way c_n c_rain c_ear c_many c_seed c_taped c_from c_to c_token c_value c_imaged c_cost r c_way) [(0, .ref a_this), (1, .int v1), (2, .int v2)] Q 102 []) :
    kW p l e rm_R_sums s m args below meth c D A 5 (cells_R_sums cI cL cZ a_this a_gravel a_kind a_own a_likely a_tape a_holding a_rowLength a_rowOf a_refusals a_old a_ahead a_cost a_may a_rest a_way c_n c_rain c_ear c_many c_seed c_taped c_from c_to c_token c_value c_imaged c_cost c_rest c_way) [(0, .ref a_this), (1, .int v1), (2, .int v2), (3, .int v3), (4, .int v4)] Q 30 [] := by
  unfold f_R_sums_b30 at h
  refine k_iload C dX5_sums_30 4 rfl ?_
  refine k_aload_n C dX5_sums_32 0 rfl rfl ?_
  refine k_get C (C0 := RX5) (T := TX5) (N := 26) (fun w h => List.mem_cons_of_mem _ (us_R w h)) 0 rfl rfl 0 (by decide) (List.mem_cons_of_mem _ wq_552) rfl rfl dX5_sums_33 ?_
  refine k_aload_n C dX5_sums_36 0 rfl rfl ?_
  refine k_get C (C0 := RX5) (T := TX5) (N := 26) (fun w h => List.mem_cons_of_mem _ (us_R w h)) 0 rfl rfl 0 (by decide) (List.mem_cons_of_mem _ wq_552) rfl rfl dX5_sums_37 ?_
  refine k_imul C dX5_sums_40 ?_
  refine k_icmp_ge C (tgt := 102) dX5_sums_41 (by decide) (fun c_41 => ?_) (fun c_41 => ?_)
  · have h := ifT c_41 h
    refine k_lv (lv' := [(0, .ref a_this), (1, .int v1), (2, .int v2)]) [0, 1, 2] rfl ?_
    exact k0 _ (Option.some.inj h).symm
  · have h := ifF c_41 h
    refine k_aload_n C dX5_sums_44 0 rfl rfl ?_
    refine k_iload_n C dX5_sums_45 2 rfl rfl ?_
    refine k_iload C dX5_sums_46 4 rfl ?_
    obtain ⟨x2, hx2, h⟩ := bindE h
    refine kcallR_i C (wc := (cells_R_isNext cI cL cZ a_this a_gravel a_kind a_own a_likely a_tape a_holding a_rowLength a_rowOf a_refusals a_old a_ahead a_cost a_may a_rest a_way c_n c_rain c_ear c_many c_seed c_taped c_from c_to c_token c_value c_imaged)) (r := x2) [0] (fun H locs ls hP hD hS hF hz => krunV C (q0 := 0) (ci := 5) (c_R_isNext l D cI cL cZ H.size a_this a_gravel a_kind a_own a_likely a_tape a_holding a_rowLength a_rowOf a_refusals a_old a_ahead a_cost a_may a_rest a_way v2 v4 c_n c_rain c_ear c_many c_seed c_taped c_from c_to c_token c_value c_imaged x2 hx2) (cwV 2 C.2.2.2.2.1 (gV wq_666 wq_667 wq_668 wq_551 wq_665) rfl rfl rfl (by decide +kernel) ⟨(Nat.le_of_ble_eq_true rfl), (Nat.le_of_ble_eq_true rfl)⟩) rfl rfl kEnv_T rfl rfl (Nat.le_of_ble_eq_true rfl) dX5_sums_48 hP hD hz) rfl (by decide) ?_
    refine k_if_eq C (tgt := 96) dX5_sums_51 (by decide) (fun c_51 => ?_) (fun c_51 => ?_)
    · have h := ifT c_51 h
      refine k_iinc C (v := (v4 + (1 : Int32))) (lv' := [(4, .int (v4 + (1 : Int32))), (0, .ref a_this), (1, .int v1), (2, .int v2), (3, .int v3)]) dX5_sums_96 4 rfl rfl (by decide) rfl ?_
      refine k_goto C (tgt := 30) dX5_sums_99 (by decide) ?_
      refine k_lv (lv' := [(0, .ref a_this), (1, .int v1), (2, .int v2), (3, .int v3), (4, .int (v4 + (1 : Int32)))]) [1, 2, 3, 4, 0] rfl ?_
      exact kc _ (Option.some.inj h).symm
    · have h := ifF c_51 h
      refine k_iload_n C dX5_sums_54 3 rfl rfl ?_
      refine k_if_eq C (tgt := 81) dX5_sums_55 (by decide) (fun c_55 => ?_) (fun c_55 => ?_)
      · have h := ifT c_55 h
        refine k_lv (lv' := [(0, .ref a_this), (1, .int v1), (2, .int v2), (4, .int v4)]) [0, 1, 2, 4] rfl ?_
        exact s_R_sums_j81 C h kc k0
      · have h := ifF c_55 h
        refine k_iload_n C dX5_sums_58 1 rfl rfl ?_
        refine k_aload_n C dX5_sums_59 0 rfl rfl ?_
        refine k_get C (C0 := RX5) (T := TX5) (N := 26) (fun w h => List.mem_cons_of_mem _ (us_R w h)) 0 rfl rfl 24 (by decide) (List.mem_cons_of_mem _ wq_664) rfl rfl dX5_sums_60 ?_
        refine k_iload C dX5_sums_63 4 rfl ?_
        obtain ⟨x5, hx5, h⟩ := bindE h
        refine k_iald C 2 0 rfl rfl hx5 dX5_sums_65 ?_
        refine k_imul C dX5_sums_66 ?_
        refine k_iload_n C dX5_sums_67 1 rfl rfl ?_
        refine k_aload_n C dX5_sums_68 0 rfl rfl ?_
        refine k_get C (C0 := RX5) (T := TX5) (N := 26) (fun w h => List.mem_cons_of_mem _ (us_R w h)) 0 rfl rfl 24 (by decide) (List.mem_cons_of_mem _ wq_664) rfl rfl dX5_sums_69 ?_
        refine k_iload_n C dX5_sums_72 2 rfl rfl ?_
        obtain ⟨x6, hx6, h⟩ := bindE h
        refine k_iald C 2 0 rfl rfl hx6 dX5_sums_73 ?_
        refine k_imul C dX5_sums_74 ?_
        refine k_icmp_lt C (tgt := 81) dX5_sums_75 (by decide) (fun c_75 => ?_) (fun c_75 => ?_)
        · have h := ifT c_75 h
          refine k_lv (lv' := [(0, .ref a_this), (1, .int v1), (2, .int v2), (4, .int v4)]) [0, 1, 2, 4] rfl ?_
          exact s_R_sums_j81 C h kc k0
        · have h := ifF c_75 h
          refine k_goto C (tgt := 96) dX5_sums_78 (by decide) ?_
          refine k_iinc C (v := (v4 + (1 : Int32))) (lv' := [(4, .int (v4 + (1 : Int32))), (0, .ref a_this), (1, .int v1), (2, .int v2), (3, .int v3)]) dX5_sums_96 4 rfl rfl (by decide) rfl ?_
          refine k_goto C (tgt := 30) dX5_sums_99 (by decide) ?_
          refine k_lv (lv' := [(0, .ref a_this), (1, .int v1), (2, .int v2), (3, .int v3), (4, .int (v4 + (1 : Int32)))]) [1, 2, 3, 4, 0] rfl ?_
          exact kc _ (Option.some.inj h).symm
set_option maxRecDepth 100000 in
set_option maxHeartbeats 4000000 in
theorem s_R_sums_l30 (C : kC p l e rm_R_sums s m args below meth c D (tyG cI cL cZ) A 5 cX5_sums yX5_sums.cls (Cond.code yX5_sums cX5_sums 5 (some .int) :: WS) (some .int)) {a_this : Nat} {a_gravel : Nat} {a_kind : Nat} {a_own : Nat} {a_likely : Nat} {a_tape : Nat} {a_holding : Nat} {a_rowLength : Nat} {a_rowOf : Nat} {a_refusals : Nat} {a_old : Nat} {a_ahead : Nat} {a_cost : Nat} {a_may : Nat} {a_rest : Nat} {a_way : Nat} {v1 : Int32} {v2 : Int32} {v3 : Int32} {v4 : Int32} {c_n : Int32} {c_rain : Int32} {c_ear : Int32} {c_many : Int32} {c_seed : Int32} {c_taped : Int32} {c_from : Int32} {c_to : Int32} {c_token : Int32} {c_value : Int32} {c_imaged : Int32} {c_cost : (Nat → Int32)} {c_rest : (Nat → Int32)} {c_way : (Nat → Int32)} {x : (Nat → Int32)} (h : f_R_sums_l30 v1 v2 c_n v3 v4 c_rest = some x)
    (k0 : kW p l e rm_R_sums s m args below meth c D A 5 (cells_R_sums cI cL cZ a_this a_gravel a_kind a_own a_likely a_tape a_holding a_rowLength a_rowOf a_refusals a_old a_ahead a_cost a_may a_rest a_way c_n c_rain c_ear c_many c_seed c_taped c_from c_to c_token c_value c_imaged c_cost x c_way) [(0, .ref a_this), (1, .int v1), (2, .int v2)] Q 102 []) :
    kW p l e rm_R_sums s m args below meth c D A 5 (cells_R_sums cI cL cZ a_this a_gravel a_kind a_own a_likely a_tape a_holding a_rowLength a_rowOf a_refusals a_old a_ahead a_cost a_may a_rest a_way c_n c_rain c_ear c_many c_seed c_taped c_from c_to c_token c_value c_imaged c_cost c_rest c_way) [(0, .ref a_this), (1, .int v1), (2, .int v2), (3, .int v3), (4, .int v4)] Q 30 [] := by
  unfold f_R_sums_l30 at h
  exact iter_W (body := fun s => f_R_sums_b30 v1 v2 c_n s.1 s.2.1 s.2.2) (r := x) (T := fun sg => kW p l e rm_R_sums s m args below meth c D A 5 (cells_R_sums cI cL cZ a_this a_gravel a_kind a_own a_likely a_tape a_holding a_rowLength a_rowOf a_refusals a_old a_ahead a_cost a_may a_rest a_way c_n c_rain c_ear c_many c_seed c_taped c_from c_to c_token c_value c_imaged c_cost sg.2.2 c_way) [(0, .ref a_this), (1, .int v1), (2, .int v2), (3, .int sg.1), (4, .int sg.2.1)] Q 30 []) (fun sg y hy hc _ hr => s_R_sums_b30 C (v1 := v1) (v2 := v2) (v3 := sg.1) (v4 := sg.2.1) (c_n := c_n) (c_rain := c_rain) (c_ear := c_ear) (c_many := c_many) (c_seed := c_seed) (c_taped := c_taped) (c_from := c_from) (c_to := c_to) (c_token := c_token) (c_value := c_value) (c_imaged := c_imaged) (c_cost := c_cost) (c_rest := sg.2.2) (c_way := c_way) (x := y) hy hc (fun r e => by rw [hr r e]; exact k0)) FUEL (v3, v4, c_rest) h
set_option maxRecDepth 100000 in
set_option maxHeartbeats 4000000 in
theorem s_R_sums_b12 (C : kC p l e rm_R_sums s m args below meth c D (tyG cI cL cZ) A 5 cX5_sums yX5_sums.cls (Cond.code yX5_sums cX5_sums 5 (some .int) :: WS) (some .int)) {a_this : Nat} {a_gravel : Nat} {a_kind : Nat} {a_own : Nat} {a_likely : Nat} {a_tape : Nat} {a_holding : Nat} {a_rowLength : Nat} {a_rowOf : Nat} {a_refusals : Nat} {a_old : Nat} {a_ahead : Nat} {a_cost : Nat} {a_may : Nat} {a_rest : Nat} {a_way : Nat} {v1 : Int32} {v2 : Int32} {c_n : Int32} {c_rain : Int32} {c_ear : Int32} {c_many : Int32} {c_seed : Int32} {c_taped : Int32} {c_from : Int32} {c_to : Int32} {c_token : Int32} {c_value : Int32} {c_imaged : Int32} {c_cost : (Nat → Int32)} {c_rest : (Nat → Int32)} {c_way : (Nat → Int32)} {x : ((Int32 × (Nat → Int32)) ⊕ (Nat → Int32))} (h : f_R_sums_b12 v1 c_n c_cost v2 c_rest = some x)
    (kc : ∀ s', x = .inl s' → kW p l e rm_R_sums s m args below meth c D A 5 (cells_R_sums cI cL cZ a_this a_gravel a_kind a_own a_likely a_tape a_holding a_rowLength a_rowOf a_refusals a_old a_ahead a_cost a_may a_rest a_way c_n c_rain c_ear c_many c_seed c_taped c_from c_to c_token c_value c_imaged c_cost s'.2 c_way) [(0, .ref a_this), (1, .int v1), (2, .int s'.1)] Q 12 [])
    (k0 : ∀ r, x = .inr r → kW p l e rm_R_sums s m args below meth c D A 5 (cells_R_sums cI cL cZ a_this a_gravel a_kind a_own a_likely a_tape a_holding a_rowLength a_rowOf a_refusals a_old a_ahead a_cost a_may a_rest a_way c_n c_rain c_ear c_many c_seed c_taped c_from c_to c_token c_value c_imaged c_cost r c_way) [(0, .ref a_this), (1, .int v1)] Q 123 []) :
    kW p l e rm_R_sums s m args below meth c D A 5 (cells_R_sums cI cL cZ a_this a_gravel a_kind a_own a_likely a_tape a_holding a_rowLength a_rowOf a_refusals a_old a_ahead a_cost a_may a_rest a_way c_n c_rain c_ear c_many c_seed c_taped c_from c_to c_token c_value c_imaged c_cost c_rest c_way) [(0, .ref a_this), (1, .int v1), (2, .int v2)] Q 12 [] := by
  unfold f_R_sums_b12 at h
  refine k_iload_n C dX5_sums_12 2 rfl rfl ?_
  refine k_if_lt C (tgt := 123) dX5_sums_13 (by decide) (fun c_13 => ?_) (fun c_13 => ?_)
  · have h := ifT c_13 h
    refine k_lv (lv' := [(0, .ref a_this), (1, .int v1)]) [0, 1] rfl ?_
    exact k0 _ (Option.some.inj h).symm
  · have h := ifF c_13 h
    refine k_aload_n C dX5_sums_16 0 rfl rfl ?_
    refine k_get C (C0 := RX5) (T := TX5) (N := 26) (fun w h => List.mem_cons_of_mem _ (us_R w h)) 0 rfl rfl 24 (by decide) (List.mem_cons_of_mem _ wq_664) rfl rfl dX5_sums_17 ?_
    refine k_iload_n C dX5_sums_20 2 rfl rfl ?_
    refine k_iconst C (v := (0 : Int32)) dX5_sums_21 (by decide) ?_
    obtain ⟨x1, hx1, h⟩ := bindE h
    refine k_iast C 2 0 (ws' := (cells_R_sums cI cL cZ a_this a_gravel a_kind a_own a_likely a_tape a_holding a_rowLength a_rowOf a_refusals a_old a_ahead a_cost a_may a_rest a_way c_n c_rain c_ear c_many c_seed c_taped c_from c_to c_token c_value c_imaged c_cost x1 c_way)) rfl rfl hx1 rfl dX5_sums_22 ?_
    refine k_iconst C (v := (0 : Int32)) dX5_sums_23 (by decide) ?_
    refine k_istore_n C (lv' := [(3, .int (0 : Int32)), (0, .ref a_this), (1, .int v1), (2, .int v2)]) dX5_sums_24 rfl (by decide) rfl ?_
    refine k_iload_n C dX5_sums_25 3 rfl rfl ?_
    refine k_iconst C (v := (1 : Int32)) dX5_sums_26 (by decide) ?_
    refine k_iadd C dX5_sums_27 ?_
    refine k_istore C (lv' := [(4, .int (v2 + (1 : Int32))), (3, .int (0 : Int32)), (0, .ref a_this), (1, .int v1), (2, .int v2)]) dX5_sums_28 (by decide) rfl ?_
    obtain ⟨x7, hx7, h⟩ := bindE h
    refine k_lv (lv' := [(0, .ref a_this), (1, .int v1), (2, .int v2), (3, .int (0 : Int32)), (4, .int (v2 + (1 : Int32)))]) [2, 3, 4, 1, 0] rfl ?_
    refine s_R_sums_l30 C hx7 ?_
    refine k_aload_n C dX5_sums_102 0 rfl rfl ?_
    refine k_get C (C0 := RX5) (T := TX5) (N := 26) (fun w h => List.mem_cons_of_mem _ (us_R w h)) 0 rfl rfl 24 (by decide) (List.mem_cons_of_mem _ wq_664) rfl rfl dX5_sums_103 ?_
    refine k_iload_n C dX5_sums_106 2 rfl rfl ?_
    refine k_dup2_11 C dX5_sums_107 rfl rfl ?_
    obtain ⟨x8, hx8, h⟩ := bindE h
    refine k_iald C 2 0 rfl rfl hx8 dX5_sums_108 ?_
    refine k_aload_n C dX5_sums_109 0 rfl rfl ?_
    refine k_get C (C0 := RX5) (T := TX5) (N := 26) (fun w h => List.mem_cons_of_mem _ (us_R w h)) 0 rfl rfl 22 (by decide) (List.mem_cons_of_mem _ wq_652) rfl rfl dX5_sums_110 ?_
    refine k_iload_n C dX5_sums_113 2 rfl rfl ?_
    obtain ⟨x9, hx9, h⟩ := bindE h
    refine k_iald C 1 0 rfl rfl hx9 dX5_sums_114 ?_
    refine k_iadd C dX5_sums_115 ?_
    obtain ⟨x10, hx10, h⟩ := bindE h
    refine k_iast C 2 0 (ws' := (cells_R_sums cI cL cZ a_this a_gravel a_kind a_own a_likely a_tape a_holding a_rowLength a_rowOf a_refusals a_old a_ahead a_cost a_may a_rest a_way c_n c_rain c_ear c_many c_seed c_taped c_from c_to c_token c_value c_imaged c_cost x10 c_way)) rfl rfl hx10 rfl dX5_sums_116 ?_
    refine k_iinc C (v := (v2 + (-1 : Int32))) (lv' := [(2, .int (v2 + (-1 : Int32))), (0, .ref a_this), (1, .int v1)]) dX5_sums_117 2 rfl rfl (by decide) rfl ?_
    refine k_goto C (tgt := 12) dX5_sums_120 (by decide) ?_
    refine k_lv (lv' := [(0, .ref a_this), (1, .int v1), (2, .int (v2 + (-1 : Int32)))]) [1, 2, 0] rfl ?_
    exact kc _ (Option.some.inj h).symm
set_option maxRecDepth 100000 in
set_option maxHeartbeats 4000000 in
theorem s_R_sums_l12 (C : kC p l e rm_R_sums s m args below meth c D (tyG cI cL cZ) A 5 cX5_sums yX5_sums.cls (Cond.code yX5_sums cX5_sums 5 (some .int) :: WS) (some .int)) {a_this : Nat} {a_gravel : Nat} {a_kind : Nat} {a_own : Nat} {a_likely : Nat} {a_tape : Nat} {a_holding : Nat} {a_rowLength : Nat} {a_rowOf : Nat} {a_refusals : Nat} {a_old : Nat} {a_ahead : Nat} {a_cost : Nat} {a_may : Nat} {a_rest : Nat} {a_way : Nat} {v1 : Int32} {v2 : Int32} {c_n : Int32} {c_rain : Int32} {c_ear : Int32} {c_many : Int32} {c_seed : Int32} {c_taped : Int32} {c_from : Int32} {c_to : Int32} {c_token : Int32} {c_value : Int32} {c_imaged : Int32} {c_cost : (Nat → Int32)} {c_rest : (Nat → Int32)} {c_way : (Nat → Int32)} {x : (Nat → Int32)} (h : f_R_sums_l12 v1 c_n c_cost v2 c_rest = some x)
    (k0 : kW p l e rm_R_sums s m args below meth c D A 5 (cells_R_sums cI cL cZ a_this a_gravel a_kind a_own a_likely a_tape a_holding a_rowLength a_rowOf a_refusals a_old a_ahead a_cost a_may a_rest a_way c_n c_rain c_ear c_many c_seed c_taped c_from c_to c_token c_value c_imaged c_cost x c_way) [(0, .ref a_this), (1, .int v1)] Q 123 []) :
    kW p l e rm_R_sums s m args below meth c D A 5 (cells_R_sums cI cL cZ a_this a_gravel a_kind a_own a_likely a_tape a_holding a_rowLength a_rowOf a_refusals a_old a_ahead a_cost a_may a_rest a_way c_n c_rain c_ear c_many c_seed c_taped c_from c_to c_token c_value c_imaged c_cost c_rest c_way) [(0, .ref a_this), (1, .int v1), (2, .int v2)] Q 12 [] := by
  unfold f_R_sums_l12 at h
  exact iter_W (body := fun s => f_R_sums_b12 v1 c_n c_cost s.1 s.2) (r := x) (T := fun sg => kW p l e rm_R_sums s m args below meth c D A 5 (cells_R_sums cI cL cZ a_this a_gravel a_kind a_own a_likely a_tape a_holding a_rowLength a_rowOf a_refusals a_old a_ahead a_cost a_may a_rest a_way c_n c_rain c_ear c_many c_seed c_taped c_from c_to c_token c_value c_imaged c_cost sg.2 c_way) [(0, .ref a_this), (1, .int v1), (2, .int sg.1)] Q 12 []) (fun sg y hy hc _ hr => s_R_sums_b12 C (v1 := v1) (v2 := sg.1) (c_n := c_n) (c_rain := c_rain) (c_ear := c_ear) (c_many := c_many) (c_seed := c_seed) (c_taped := c_taped) (c_from := c_from) (c_to := c_to) (c_token := c_token) (c_value := c_value) (c_imaged := c_imaged) (c_cost := c_cost) (c_rest := sg.2) (c_way := c_way) (x := y) hy hc (fun r e => by rw [hr r e]; exact k0)) FUEL (v2, c_rest) h
set_option maxRecDepth 100000 in
set_option maxHeartbeats 4000000 in
theorem s_R_sums_j183 (C : kC p l e rm_R_sums s m args below meth c D (tyG cI cL cZ) A 5 cX5_sums yX5_sums.cls (Cond.code yX5_sums cX5_sums 5 (some .int) :: WS) (some .int)) {a_this : Nat} {a_gravel : Nat} {a_kind : Nat} {a_own : Nat} {a_likely : Nat} {a_tape : Nat} {a_holding : Nat} {a_rowLength : Nat} {a_rowOf : Nat} {a_refusals : Nat} {a_old : Nat} {a_ahead : Nat} {a_cost : Nat} {a_may : Nat} {a_rest : Nat} {a_way : Nat} {v1 : Int32} {v2 : Int32} {v3 : Int32} {v4 : Int32} {c_n : Int32} {c_rain : Int32} {c_ear : Int32} {c_many : Int32} {c_seed : Int32} {c_taped : Int32} {c_from : Int32} {c_to : Int32} {c_token : Int32} {c_value : Int32} {c_imaged : Int32} {c_cost : (Nat → Int32)} {c_rest : (Nat → Int32)} {c_way : (Nat → Int32)} {x : ((Int32 × Int32) ⊕ Int32)} (h : f_R_sums_j183 v1 v3 v4 c_rest = some x)
    (kc : ∀ s', x = .inl s' → kW p l e rm_R_sums s m args below meth c D A 5 (cells_R_sums cI cL cZ a_this a_gravel a_kind a_own a_likely a_tape a_holding a_rowLength a_rowOf a_refusals a_old a_ahead a_cost a_may a_rest a_way c_n c_rain c_ear c_many c_seed c_taped c_from c_to c_token c_value c_imaged c_cost c_rest c_way) [(0, .ref a_this), (1, .int v1), (2, .int v2), (3, .int s'.1), (4, .int s'.2)] Q 143 [])
    (k0 : ∀ r, x = .inr r → kW p l e rm_R_sums s m args below meth c D A 5 (cells_R_sums cI cL cZ a_this a_gravel a_kind a_own a_likely a_tape a_holding a_rowLength a_rowOf a_refusals a_old a_ahead a_cost a_may a_rest a_way c_n c_rain c_ear c_many c_seed c_taped c_from c_to c_token c_value c_imaged c_cost c_rest c_way) [(0, .ref a_this), (1, .int v1), (2, .int v2), (3, .int r)] Q 217 []) :
    kW p l e rm_R_sums s m args below meth c D A 5 (cells_R_sums cI cL cZ a_this a_gravel a_kind a_own a_likely a_tape a_holding a_rowLength a_rowOf a_refusals a_old a_ahead a_cost a_may a_rest a_way c_n c_rain c_ear c_many c_seed c_taped c_from c_to c_token c_value c_imaged c_cost c_rest c_way) [(0, .ref a_this), (1, .int v1), (2, .int v2), (3, .int v3), (4, .int v4)] Q 183 [] := by
  unfold f_R_sums_j183 at h
  refine k_iload_n C dX5_sums_183 3 rfl rfl ?_
  refine k_iconst C (v := (-1 : Int32)) dX5_sums_184 (by decide) ?_
  refine k_icmp_eq C (tgt := 208) dX5_sums_185 (by decide) (fun c_185 => ?_) (fun c_185 => ?_)
  · have h := ifT c_185 h
    refine k_iload C dX5_sums_208 4 rfl ?_
    refine k_istore_n C (lv' := [(3, .int v4), (0, .ref a_this), (1, .int v1), (2, .int v2), (4, .int v4)]) dX5_sums_210 rfl (by decide) rfl ?_
    refine k_iinc C (v := (v4 + (1 : Int32))) (lv' := [(4, .int (v4 + (1 : Int32))), (3, .int v4), (0, .ref a_this), (1, .int v1), (2, .int v2)]) dX5_sums_211 4 rfl rfl (by decide) rfl ?_
    refine k_goto C (tgt := 143) dX5_sums_214 (by decide) ?_
    refine k_lv (lv' := [(0, .ref a_this), (1, .int v1), (2, .int v2), (3, .int v4), (4, .int (v4 + (1 : Int32)))]) [2, 3, 4, 1, 0] rfl ?_
    exact kc _ (Option.some.inj h).symm
  · have h := ifF c_185 h
    refine k_iload_n C dX5_sums_188 1 rfl rfl ?_
    refine k_aload_n C dX5_sums_189 0 rfl rfl ?_
    refine k_get C (C0 := RX5) (T := TX5) (N := 26) (fun w h => List.mem_cons_of_mem _ (us_R w h)) 0 rfl rfl 24 (by decide) (List.mem_cons_of_mem _ wq_664) rfl rfl dX5_sums_190 ?_
    refine k_iload C dX5_sums_193 4 rfl ?_
    obtain ⟨x12, hx12, h⟩ := bindE h
    refine k_iald C 2 0 rfl rfl hx12 dX5_sums_195 ?_
    refine k_imul C dX5_sums_196 ?_
    refine k_iload_n C dX5_sums_197 1 rfl rfl ?_
    refine k_aload_n C dX5_sums_198 0 rfl rfl ?_
    refine k_get C (C0 := RX5) (T := TX5) (N := 26) (fun w h => List.mem_cons_of_mem _ (us_R w h)) 0 rfl rfl 24 (by decide) (List.mem_cons_of_mem _ wq_664) rfl rfl dX5_sums_199 ?_
    refine k_iload_n C dX5_sums_202 3 rfl rfl ?_
    obtain ⟨x13, hx13, h⟩ := bindE h
    refine k_iald C 2 0 rfl rfl hx13 dX5_sums_203 ?_
    refine k_imul C dX5_sums_204 ?_
    refine k_icmp_ge C (tgt := 211) dX5_sums_205 (by decide) (fun c_205 => ?_) (fun c_205 => ?_)
    · have h := ifT c_205 h
      refine k_iinc C (v := (v4 + (1 : Int32))) (lv' := [(4, .int (v4 + (1 : Int32))), (0, .ref a_this), (1, .int v1), (2, .int v2), (3, .int v3)]) dX5_sums_211 4 rfl rfl (by decide) rfl ?_
      refine k_goto C (tgt := 143) dX5_sums_214 (by decide) ?_
      refine k_lv (lv' := [(0, .ref a_this), (1, .int v1), (2, .int v2), (3, .int v3), (4, .int (v4 + (1 : Int32)))]) [1, 2, 3, 4, 0] rfl ?_
      exact kc _ (Option.some.inj h).symm
    · have h := ifF c_205 h
      refine k_iload C dX5_sums_208 4 rfl ?_
      refine k_istore_n C (lv' := [(3, .int v4), (0, .ref a_this), (1, .int v1), (2, .int v2), (4, .int v4)]) dX5_sums_210 rfl (by decide) rfl ?_
      refine k_iinc C (v := (v4 + (1 : Int32))) (lv' := [(4, .int (v4 + (1 : Int32))), (3, .int v4), (0, .ref a_this), (1, .int v1), (2, .int v2)]) dX5_sums_211 4 rfl rfl (by decide) rfl ?_
      refine k_goto C (tgt := 143) dX5_sums_214 (by decide) ?_
      refine k_lv (lv' := [(0, .ref a_this), (1, .int v1), (2, .int v2), (3, .int v4), (4, .int (v4 + (1 : Int32)))]) [2, 3, 4, 1, 0] rfl ?_
      exact kc _ (Option.some.inj h).symm
set_option maxRecDepth 100000 in
set_option maxHeartbeats 4000000 in
theorem s_R_sums_b143 (C : kC p l e rm_R_sums s m args below meth c D (tyG cI cL cZ) A 5 cX5_sums yX5_sums.cls (Cond.code yX5_sums cX5_sums 5 (some .int) :: WS) (some .int)) {a_this : Nat} {a_gravel : Nat} {a_kind : Nat} {a_own : Nat} {a_likely : Nat} {a_tape : Nat} {a_holding : Nat} {a_rowLength : Nat} {a_rowOf : Nat} {a_refusals : Nat} {a_old : Nat} {a_ahead : Nat} {a_cost : Nat} {a_may : Nat} {a_rest : Nat} {a_way : Nat} {v1 : Int32} {v2 : Int32} {v3 : Int32} {v4 : Int32} {c_n : Int32} {c_rain : Int32} {c_ear : Int32} {c_many : Int32} {c_seed : Int32} {c_taped : Int32} {c_from : Int32} {c_to : Int32} {c_token : Int32} {c_value : Int32} {c_imaged : Int32} {c_cost : (Nat → Int32)} {c_rest : (Nat → Int32)} {c_way : (Nat → Int32)} {x : ((Int32 × Int32) ⊕ Int32)} (h : f_R_sums_b143 v1 v2 c_n c_rest c_way v3 v4 = some x)
    (kc : ∀ s', x = .inl s' → kW p l e rm_R_sums s m args below meth c D A 5 (cells_R_sums cI cL cZ a_this a_gravel a_kind a_own a_likely a_tape a_holding a_rowLength a_rowOf a_refusals a_old a_ahead a_cost a_may a_rest a_way c_n c_rain c_ear c_many c_seed c_taped c_from c_to c_token c_value c_imaged c_cost c_rest c_way) [(0, .ref a_this), (1, .int v1), (2, .int v2), (3, .int s'.1), (4, .int s'.2)] Q 143 [])
    (k0 : ∀ r, x = .inr r → kW p l e rm_R_sums s m args below meth c D A 5 (cells_R_sums cI cL cZ a_this a_gravel a_kind a_own a_likely a_tape a_holding a_rowLength a_rowOf a_refusals a_old a_ahead a_cost a_may a_rest a_way c_n c_rain c_ear c_many c_seed c_taped c_from c_to c_token c_value c_imaged c_cost c_rest c_way) [(0, .ref a_this), (1, .int v1), (2, .int v2), (3, .int r)] Q 217 []) :
    kW p l e rm_R_sums s m args below meth c D A 5 (cells_R_sums cI cL cZ a_this a_gravel a_kind a_own a_likely a_tape a_holding a_rowLength a_rowOf a_refusals a_old a_ahead a_cost a_may a_rest a_way c_n c_rain c_ear c_many c_seed c_taped c_from c_to c_token c_value c_imaged c_cost c_rest c_way) [(0, .ref a_this), (1, .int v1), (2, .int v2), (3, .int v3), (4, .int v4)] Q 143 [] := by
  unfold f_R_sums_b143 at h
  refine k_iload C dX5_sums_143 4 rfl ?_
  refine k_iload_n C dX5_sums_145 2 rfl rfl ?_
  refine k_aload_n C dX5_sums_146 0 rfl rfl ?_
  refine k_get C (C0 := RX5) (T := TX5) (N := 26) (fun w h => List.mem_cons_of_mem _ (us_R w h)) 0 rfl rfl 0 (by decide) (List.mem_cons_of_mem _ wq_552) rfl rfl dX5_sums_147 ?_
  refine k_imul C dX5_sums_150 ?_
  refine k_aload_n C dX5_sums_151 0 rfl rfl ?_
  refine k_get C (C0 := RX5) (T := TX5) (N := 26) (fun w h => List.mem_cons_of_mem _ (us_R w h)) 0 rfl rfl 0 (by decide) (List.mem_cons_of_mem _ wq_552) rfl rfl dX5_sums_152 ?_
  refine k_iadd C dX5_sums_155 ?_
  refine k_icmp_ge C (tgt := 217) dX5_sums_156 (by decide) (fun c_156 => ?_) (fun c_156 => ?_)
  · have h := ifT c_156 h
    refine k_lv (lv' := [(0, .ref a_this), (1, .int v1), (2, .int v2), (3, .int v3)]) [0, 1, 2, 3] rfl ?_
    exact k0 _ (Option.some.inj h).symm
  · have h := ifF c_156 h
    refine k_iload_n C dX5_sums_159 2 rfl rfl ?_
    refine k_if_le C (tgt := 183) dX5_sums_160 (by decide) (fun c_160 => ?_) (fun c_160 => ?_)
    · have h := ifT c_160 h
      exact s_R_sums_j183 C h kc k0
    · have h := ifF c_160 h
      refine k_aload_n C dX5_sums_163 0 rfl rfl ?_
      refine k_aload_n C dX5_sums_164 0 rfl rfl ?_
      refine k_get C (C0 := RX5) (T := TX5) (N := 26) (fun w h => List.mem_cons_of_mem _ (us_R w h)) 0 rfl rfl 25 (by decide) (List.mem_cons_of_mem _ wq_673) rfl rfl dX5_sums_165 ?_
      refine k_iload_n C dX5_sums_168 2 rfl rfl ?_
      refine k_iconst C (v := (1 : Int32)) dX5_sums_169 (by decide) ?_
      refine k_isub C dX5_sums_170 ?_
      obtain ⟨x14, hx14, h⟩ := bindE h
      refine k_iald C 3 0 rfl rfl hx14 dX5_sums_171 ?_
      refine k_iload C dX5_sums_172 4 rfl ?_
      obtain ⟨x15, hx15, h⟩ := bindE h
      refine kcallR_i C (wc := (cells_R_isNext cI cL cZ a_this a_gravel a_kind a_own a_likely a_tape a_holding a_rowLength a_rowOf a_refusals a_old a_ahead a_cost a_may a_rest a_way c_n c_rain c_ear c_many c_seed c_taped c_from c_to c_token c_value c_imaged)) (r := x15) [0] (fun H locs ls hP hD hS hF hz => krunV C (q0 := 0) (ci := 5) (c_R_isNext l D cI cL cZ H.size a_this a_gravel a_kind a_own a_likely a_tape a_holding a_rowLength a_rowOf a_refusals a_old a_ahead a_cost a_may a_rest a_way x14 v4 c_n c_rain c_ear c_many c_seed c_taped c_from c_to c_token c_value c_imaged x15 hx15) (cwV 2 C.2.2.2.2.1 (gV wq_666 wq_667 wq_668 wq_551 wq_665) rfl rfl rfl (by decide +kernel) ⟨(Nat.le_of_ble_eq_true rfl), (Nat.le_of_ble_eq_true rfl)⟩) rfl rfl kEnv_T rfl rfl (Nat.le_of_ble_eq_true rfl) dX5_sums_174 hP hD hz) rfl (by decide) ?_
      refine k_if_ne C (tgt := 183) dX5_sums_177 (by decide) (fun c_177 => ?_) (fun c_177 => ?_)
      · have h := ifF c_177 h
        exact s_R_sums_j183 C h kc k0
      · have h := ifT c_177 h
        refine k_goto C (tgt := 211) dX5_sums_180 (by decide) ?_
        refine k_iinc C (v := (v4 + (1 : Int32))) (lv' := [(4, .int (v4 + (1 : Int32))), (0, .ref a_this), (1, .int v1), (2, .int v2), (3, .int v3)]) dX5_sums_211 4 rfl rfl (by decide) rfl ?_
        refine k_goto C (tgt := 143) dX5_sums_214 (by decide) ?_
        refine k_lv (lv' := [(0, .ref a_this), (1, .int v1), (2, .int v2), (3, .int v3), (4, .int (v4 + (1 : Int32)))]) [1, 2, 3, 4, 0] rfl ?_
        exact kc _ (Option.some.inj h).symm
set_option maxRecDepth 100000 in
set_option maxHeartbeats 4000000 in
theorem s_R_sums_l143 (C : kC p l e rm_R_sums s m args below meth c D (tyG cI cL cZ) A 5 cX5_sums yX5_sums.cls (Cond.code yX5_sums cX5_sums 5 (some .int) :: WS) (some .int)) {a_this : Nat} {a_gravel : Nat} {a_kind : Nat} {a_own : Nat} {a_likely : Nat} {a_tape : Nat} {a_holding : Nat} {a_rowLength : Nat} {a_rowOf : Nat} {a_refusals : Nat} {a_old : Nat} {a_ahead : Nat} {a_cost : Nat} {a_may : Nat} {a_rest : Nat} {a_way : Nat} {v1 : Int32} {v2 : Int32} {v3 : Int32} {v4 : Int32} {c_n : Int32} {c_rain : Int32} {c_ear : Int32} {c_many : Int32} {c_seed : Int32} {c_taped : Int32} {c_from : Int32} {c_to : Int32} {c_token : Int32} {c_value : Int32} {c_imaged : Int32} {c_cost : (Nat → Int32)} {c_rest : (Nat → Int32)} {c_way : (Nat → Int32)} {x : Int32} (h : f_R_sums_l143 v1 v2 c_n c_rest c_way v3 v4 = some x)
    (k0 : kW p l e rm_R_sums s m args below meth c D A 5 (cells_R_sums cI cL cZ a_this a_gravel a_kind a_own a_likely a_tape a_holding a_rowLength a_rowOf a_refusals a_old a_ahead a_cost a_may a_rest a_way c_n c_rain c_ear c_many c_seed c_taped c_from c_to c_token c_value c_imaged c_cost c_rest c_way) [(0, .ref a_this), (1, .int v1), (2, .int v2), (3, .int x)] Q 217 []) :
    kW p l e rm_R_sums s m args below meth c D A 5 (cells_R_sums cI cL cZ a_this a_gravel a_kind a_own a_likely a_tape a_holding a_rowLength a_rowOf a_refusals a_old a_ahead a_cost a_may a_rest a_way c_n c_rain c_ear c_many c_seed c_taped c_from c_to c_token c_value c_imaged c_cost c_rest c_way) [(0, .ref a_this), (1, .int v1), (2, .int v2), (3, .int v3), (4, .int v4)] Q 143 [] := by
  unfold f_R_sums_l143 at h
  exact iter_W (body := fun s => f_R_sums_b143 v1 v2 c_n c_rest c_way s.1 s.2) (r := x) (T := fun sg => kW p l e rm_R_sums s m args below meth c D A 5 (cells_R_sums cI cL cZ a_this a_gravel a_kind a_own a_likely a_tape a_holding a_rowLength a_rowOf a_refusals a_old a_ahead a_cost a_may a_rest a_way c_n c_rain c_ear c_many c_seed c_taped c_from c_to c_token c_value c_imaged c_cost c_rest c_way) [(0, .ref a_this), (1, .int v1), (2, .int v2), (3, .int sg.1), (4, .int sg.2)] Q 143 []) (fun sg y hy hc _ hr => s_R_sums_b143 C (v1 := v1) (v2 := v2) (v3 := sg.1) (v4 := sg.2) (c_n := c_n) (c_rain := c_rain) (c_ear := c_ear) (c_many := c_many) (c_seed := c_seed) (c_taped := c_taped) (c_from := c_from) (c_to := c_to) (c_token := c_token) (c_value := c_value) (c_imaged := c_imaged) (c_cost := c_cost) (c_rest := c_rest) (c_way := c_way) (x := y) hy hc (fun r e => by rw [hr r e]; exact k0)) FUEL (v3, v4) h
set_option maxRecDepth 100000 in
set_option maxHeartbeats 4000000 in
theorem s_R_sums_b125 (C : kC p l e rm_R_sums s m args below meth c D (tyG cI cL cZ) A 5 cX5_sums yX5_sums.cls (Cond.code yX5_sums cX5_sums 5 (some .int) :: WS) (some .int)) {a_this : Nat} {a_gravel : Nat} {a_kind : Nat} {a_own : Nat} {a_likely : Nat} {a_tape : Nat} {a_holding : Nat} {a_rowLength : Nat} {a_rowOf : Nat} {a_refusals : Nat} {a_old : Nat} {a_ahead : Nat} {a_cost : Nat} {a_may : Nat} {a_rest : Nat} {a_way : Nat} {v1 : Int32} {v2 : Int32} {c_n : Int32} {c_rain : Int32} {c_ear : Int32} {c_many : Int32} {c_seed : Int32} {c_taped : Int32} {c_from : Int32} {c_to : Int32} {c_token : Int32} {c_value : Int32} {c_imaged : Int32} {c_cost : (Nat → Int32)} {c_rest : (Nat → Int32)} {c_way : (Nat → Int32)} {x : ((Int32 × (Nat → Int32)) ⊕ (Nat → Int32))} (h : f_R_sums_b125 v1 c_n c_rest v2 c_way = some x)
    (kc : ∀ s', x = .inl s' → kW p l e rm_R_sums s m args below meth c D A 5 (cells_R_sums cI cL cZ a_this a_gravel a_kind a_own a_likely a_tape a_holding a_rowLength a_rowOf a_refusals a_old a_ahead a_cost a_may a_rest a_way c_n c_rain c_ear c_many c_seed c_taped c_from c_to c_token c_value c_imaged c_cost c_rest s'.2) [(0, .ref a_this), (1, .int v1), (2, .int s'.1)] Q 125 [])
    (k0 : ∀ r, x = .inr r → kW p l e rm_R_sums s m args below meth c D A 5 (cells_R_sums cI cL cZ a_this a_gravel a_kind a_own a_likely a_tape a_holding a_rowLength a_rowOf a_refusals a_old a_ahead a_cost a_may a_rest a_way c_n c_rain c_ear c_many c_seed c_taped c_from c_to c_token c_value c_imaged c_cost c_rest r) [(0, .ref a_this)] Q 230 []) :
    kW p l e rm_R_sums s m args below meth c D A 5 (cells_R_sums cI cL cZ a_this a_gravel a_kind a_own a_likely a_tape a_holding a_rowLength a_rowOf a_refusals a_old a_ahead a_cost a_may a_rest a_way c_n c_rain c_ear c_many c_seed c_taped c_from c_to c_token c_value c_imaged c_cost c_rest c_way) [(0, .ref a_this), (1, .int v1), (2, .int v2)] Q 125 [] := by
  unfold f_R_sums_b125 at h
  refine k_iload_n C dX5_sums_125 2 rfl rfl ?_
  refine k_aload_n C dX5_sums_126 0 rfl rfl ?_
  refine k_get C (C0 := RX5) (T := TX5) (N := 26) (fun w h => List.mem_cons_of_mem _ (us_R w h)) 0 rfl rfl 0 (by decide) (List.mem_cons_of_mem _ wq_552) rfl rfl dX5_sums_127 ?_
  refine k_icmp_ge C (tgt := 230) dX5_sums_130 (by decide) (fun c_130 => ?_) (fun c_130 => ?_)
  · have h := ifT c_130 h
    refine k_lv (lv' := [(0, .ref a_this)]) [0] rfl ?_
    exact k0 _ (Option.some.inj h).symm
  · have h := ifF c_130 h
    refine k_iconst C (v := (-1 : Int32)) dX5_sums_133 (by decide) ?_
    refine k_istore_n C (lv' := [(3, .int (-1 : Int32)), (0, .ref a_this), (1, .int v1), (2, .int v2)]) dX5_sums_134 rfl (by decide) rfl ?_
    refine k_iload_n C dX5_sums_135 3 rfl rfl ?_
    refine k_aload_n C dX5_sums_136 1 rfl rfl ?_
    refine k_get C (C0 := RX5) (T := TX5) (N := 26) (fun w h => List.mem_cons_of_mem _ (us_R w h)) 0 rfl rfl 0 (by decide) (List.mem_cons_of_mem _ wq_552) rfl rfl dX5_sums_137 ?_
    refine k_imul C dX5_sums_140 ?_
    refine k_istore C (lv' := [(4, .int (v2 * c_n)), (3, .int (-1 : Int32)), (0, .ref a_this), (1, .int v1), (2, .int v2)]) dX5_sums_141 (by decide) rfl ?_
    obtain ⟨x16, hx16, h⟩ := bindE h
    refine k_lv (lv' := [(0, .ref a_this), (1, .int v1), (2, .int v2), (3, .int (-1 : Int32)), (4, .int (v2 * c_n))]) [2, 3, 4, 1, 0] rfl ?_
    refine s_R_sums_l143 C hx16 ?_
    refine k_aload_n C dX5_sums_217 0 rfl rfl ?_
    refine k_get C (C0 := RX5) (T := TX5) (N := 26) (fun w h => List.mem_cons_of_mem _ (us_R w h)) 0 rfl rfl 25 (by decide) (List.mem_cons_of_mem _ wq_673) rfl rfl dX5_sums_218 ?_
    refine k_iload_n C dX5_sums_221 2 rfl rfl ?_
    refine k_iload_n C dX5_sums_222 3 rfl rfl ?_
    obtain ⟨x17, hx17, h⟩ := bindE h
    refine k_iast C 3 0 (ws' := (cells_R_sums cI cL cZ a_this a_gravel a_kind a_own a_likely a_tape a_holding a_rowLength a_rowOf a_refusals a_old a_ahead a_cost a_may a_rest a_way c_n c_rain c_ear c_many c_seed c_taped c_from c_to c_token c_value c_imaged c_cost c_rest x17)) rfl rfl hx17 rfl dX5_sums_223 ?_
    refine k_iinc C (v := (v2 + (1 : Int32))) (lv' := [(2, .int (v2 + (1 : Int32))), (0, .ref a_this), (1, .int v1), (3, .int x16)]) dX5_sums_224 2 rfl rfl (by decide) rfl ?_
    refine k_goto C (tgt := 125) dX5_sums_227 (by decide) ?_
    refine k_lv (lv' := [(0, .ref a_this), (1, .int v1), (2, .int (v2 + (1 : Int32)))]) [1, 2, 0] rfl ?_
    exact kc _ (Option.some.inj h).symm
set_option maxRecDepth 100000 in
set_option maxHeartbeats 4000000 in
theorem s_R_sums_l125 (C : kC p l e rm_R_sums s m args below meth c D (tyG cI cL cZ) A 5 cX5_sums yX5_sums.cls (Cond.code yX5_sums cX5_sums 5 (some .int) :: WS) (some .int)) {a_this : Nat} {a_gravel : Nat} {a_kind : Nat} {a_own : Nat} {a_likely : Nat} {a_tape : Nat} {a_holding : Nat} {a_rowLength : Nat} {a_rowOf : Nat} {a_refusals : Nat} {a_old : Nat} {a_ahead : Nat} {a_cost : Nat} {a_may : Nat} {a_rest : Nat} {a_way : Nat} {v1 : Int32} {v2 : Int32} {c_n : Int32} {c_rain : Int32} {c_ear : Int32} {c_many : Int32} {c_seed : Int32} {c_taped : Int32} {c_from : Int32} {c_to : Int32} {c_token : Int32} {c_value : Int32} {c_imaged : Int32} {c_cost : (Nat → Int32)} {c_rest : (Nat → Int32)} {c_way : (Nat → Int32)} {x : (Nat → Int32)} (h : f_R_sums_l125 v1 c_n c_rest v2 c_way = some x)
    (k0 : kW p l e rm_R_sums s m args below meth c D A 5 (cells_R_sums cI cL cZ a_this a_gravel a_kind a_own a_likely a_tape a_holding a_rowLength a_rowOf a_refusals a_old a_ahead a_cost a_may a_rest a_way c_n c_rain c_ear c_many c_seed c_taped c_from c_to c_token c_value c_imaged c_cost c_rest x) [(0, .ref a_this)] Q 230 []) :
    kW p l e rm_R_sums s m args below meth c D A 5 (cells_R_sums cI cL cZ a_this a_gravel a_kind a_own a_likely a_tape a_holding a_rowLength a_rowOf a_refusals a_old a_ahead a_cost a_may a_rest a_way c_n c_rain c_ear c_many c_seed c_taped c_from c_to c_token c_value c_imaged c_cost c_rest c_way) [(0, .ref a_this), (1, .int v1), (2, .int v2)] Q 125 [] := by
  unfold f_R_sums_l125 at h
  exact iter_W (body := fun s => f_R_sums_b125 v1 c_n c_rest s.1 s.2) (r := x) (T := fun sg => kW p l e rm_R_sums s m args below meth c D A 5 (cells_R_sums cI cL cZ a_this a_gravel a_kind a_own a_likely a_tape a_holding a_rowLength a_rowOf a_refusals a_old a_ahead a_cost a_may a_rest a_way c_n c_rain c_ear c_many c_seed c_taped c_from c_to c_token c_value c_imaged c_cost c_rest sg.2) [(0, .ref a_this), (1, .int v1), (2, .int sg.1)] Q 125 []) (fun sg y hy hc _ hr => s_R_sums_b125 C (v1 := v1) (v2 := sg.1) (c_n := c_n) (c_rain := c_rain) (c_ear := c_ear) (c_many := c_many) (c_seed := c_seed) (c_taped := c_taped) (c_from := c_from) (c_to := c_to) (c_token := c_token) (c_value := c_value) (c_imaged := c_imaged) (c_cost := c_cost) (c_rest := c_rest) (c_way := sg.2) (x := y) hy hc (fun r e => by rw [hr r e]; exact k0)) FUEL (v2, c_way) h
set_option maxRecDepth 100000 in
set_option maxHeartbeats 4000000 in
theorem s_R_sums (C : kC p l e rm_R_sums s m args below meth c D (tyG cI cL cZ) A 5 cX5_sums yX5_sums.cls (Cond.code yX5_sums cX5_sums 5 (some .int) :: WS) (some .int)) {a_this : Nat} {a_gravel : Nat} {a_kind : Nat} {a_own : Nat} {a_likely : Nat} {a_tape : Nat} {a_holding : Nat} {a_rowLength : Nat} {a_rowOf : Nat} {a_refusals : Nat} {a_old : Nat} {a_ahead : Nat} {a_cost : Nat} {a_may : Nat} {a_rest : Nat} {a_way : Nat} {v1 : Int32} {c_n : Int32} {c_rain : Int32} {c_ear : Int32} {c_many : Int32} {c_seed : Int32} {c_taped : Int32} {c_from : Int32} {c_to : Int32} {c_token : Int32} {c_value : Int32} {c_imaged : Int32} {c_cost : (Nat → Int32)} {c_rest : (Nat → Int32)} {c_way : (Nat → Int32)} {x : (Int32 × (Nat → Int32) × (Nat → Int32))} (h : f_R_sums v1 c_n c_cost c_rest c_way = some x) :
    kW p l e rm_R_sums s m args below meth c D A 5 (cells_R_sums cI cL cZ a_this a_gravel a_kind a_own a_likely a_tape a_holding a_rowLength a_rowOf a_refusals a_old a_ahead a_cost a_may a_rest a_way c_n c_rain c_ear c_many c_seed c_taped c_from c_to c_token c_value c_imaged c_cost c_rest c_way) [(0, .ref a_this), (1, .int v1)] (MQ below (kQi D A (cells_R_sums cI cL cZ a_this a_gravel a_kind a_own a_likely a_tape a_holding a_rowLength a_rowOf a_refusals a_old a_ahead a_cost a_may a_rest a_way c_n c_rain c_ear c_many c_seed c_taped c_from c_to c_token c_value c_imaged c_cost x.2.1 x.2.2) x.1) args s 0 0 A) 0 [] := by
  unfold f_R_sums at h
  refine k_aload_n C dX5_sums_0 0 rfl rfl ?_
  refine k_get C (C0 := RX5) (T := TX5) (N := 26) (fun w h => List.mem_cons_of_mem _ (us_R w h)) 0 rfl rfl 0 (by decide) (List.mem_cons_of_mem _ wq_552) rfl rfl dX5_sums_1 ?_
  refine k_aload_n C dX5_sums_4 0 rfl rfl ?_
  refine k_get C (C0 := RX5) (T := TX5) (N := 26) (fun w h => List.mem_cons_of_mem _ (us_R w h)) 0 rfl rfl 0 (by decide) (List.mem_cons_of_mem _ wq_552) rfl rfl dX5_sums_5 ?_
  refine k_imul C dX5_sums_8 ?_
  refine k_iconst C (v := (1 : Int32)) dX5_sums_9 (by decide) ?_
  refine k_isub C dX5_sums_10 ?_
  refine k_istore_n C (lv' := [(2, .int ((c_n * c_n) - (1 : Int32))), (0, .ref a_this), (1, .int v1)]) dX5_sums_11 rfl (by decide) rfl ?_
  obtain ⟨x11, hx11, h⟩ := bindE h
  refine k_lv (lv' := [(0, .ref a_this), (1, .int v1), (2, .int ((c_n * c_n) - (1 : Int32)))]) [1, 2, 0] rfl ?_
  refine s_R_sums_l12 C hx11 ?_
  refine k_iconst C (v := (0 : Int32)) dX5_sums_123 (by decide) ?_
  refine k_istore_n C (lv' := [(2, .int (0 : Int32)), (0, .ref a_this), (1, .int v1)]) dX5_sums_124 rfl (by decide) rfl ?_
  obtain ⟨x18, hx18, h⟩ := bindE h
  refine k_lv (lv' := [(0, .ref a_this), (1, .int v1), (2, .int (0 : Int32))]) [1, 2, 0] rfl ?_
  refine s_R_sums_l125 C hx18 ?_
  refine k_aload_n C dX5_sums_230 0 rfl rfl ?_
  refine k_get C (C0 := RX5) (T := TX5) (N := 26) (fun w h => List.mem_cons_of_mem _ (us_R w h)) 0 rfl rfl 24 (by decide) (List.mem_cons_of_mem _ wq_664) rfl rfl dX5_sums_231 ?_
  refine k_aload_n C dX5_sums_234 0 rfl rfl ?_
  refine k_get C (C0 := RX5) (T := TX5) (N := 26) (fun w h => List.mem_cons_of_mem _ (us_R w h)) 0 rfl rfl 25 (by decide) (List.mem_cons_of_mem _ wq_673) rfl rfl dX5_sums_235 ?_
  refine k_iconst C (v := (0 : Int32)) dX5_sums_238 (by decide) ?_
  obtain ⟨x19, hx19, h⟩ := bindE h
  refine k_iald C 3 0 rfl rfl hx19 dX5_sums_239 ?_
  obtain ⟨x20, hx20, h⟩ := bindE h
  refine k_iald C 2 0 rfl rfl hx20 dX5_sums_240 ?_
  obtain rfl := Option.some.inj h
  exact kret_i C rfl dX5_sums_241
theorem c_R_sums (l : Launch) (D : va_G) (cI : ClassId) (cL : ClassId) (cZ : ClassId) (sz : Nat) (a_this : Nat) (a_gravel : Nat) (a_kind : Nat) (a_own : Nat) (a_likely : Nat) (a_tape : Nat) (a_holding : Nat) (a_rowLength : Nat) (a_rowOf : Nat) (a_refusals : Nat) (a_old : Nat) (a_ahead : Nat) (a_cost : Nat) (a_may : Nat) (a_rest : Nat) (a_way : Nat) (v1 : Int32) (c_n : Int32) (c_rain : Int32) (c_ear : Int32) (c_many : Int32) (c_seed : Int32) (c_taped : Int32) (c_from : Int32) (c_to : Int32) (c_token : Int32) (c_value : Int32) (c_imaged : Int32) (c_cost : (Nat → Int32)) (c_rest : (Nat → Int32)) (c_way : (Nat → Int32)) (x : (Int32 × (Nat → Int32) × (Nat → Int32))) (h : f_R_sums v1 c_n c_cost c_rest c_way = some x) :
    Met l yX5_sums (Cond.code yX5_sums cX5_sums 5 (some .int) :: WS) rm_R_sums (kP D (tyG cI cL cZ) kTrue [.ref a_this, .int v1] sz (cells_R_sums cI cL cZ a_this a_gravel a_kind a_own a_likely a_tape a_holding a_rowLength a_rowOf a_refusals a_old a_ahead a_cost a_may a_rest a_way c_n c_rain c_ear c_many c_seed c_taped c_from c_to c_token c_value c_imaged c_cost c_rest c_way)) (kQi D (va_A (cells_R_sums cI cL cZ a_this a_gravel a_kind a_own a_likely a_tape a_holding a_rowLength a_rowOf a_refusals a_old a_ahead a_cost a_may a_rest a_way c_n c_rain c_ear c_many c_seed c_taped c_from c_to c_token c_value c_imaged c_cost c_rest c_way) sz) (cells_R_sums cI cL cZ a_this a_gravel a_kind a_own a_likely a_tape a_holding a_rowLength a_rowOf a_refusals a_old a_ahead a_cost a_may a_rest a_way c_n c_rain c_ear c_many c_seed c_taped c_from c_to c_token c_value c_imaged c_cost x.2.1 x.2.2) x.1) 0 0 (va_A (cells_R_sums cI cL cZ a_this a_gravel a_kind a_own a_likely a_tape a_holding a_rowLength a_rowOf a_refusals a_old a_ahead a_cost a_may a_rest a_way c_n c_rain c_ear c_many c_seed c_taped c_from c_to c_token c_value c_imaged c_cost c_rest c_way) sz) :=
  kmet (by decide) (Nat.le_of_ble_eq_true rfl) rfl (fun p e s m below meth c C hE => s_R_sums C h)
abbrev cells_R_quiet (cI : ClassId) (cL : ClassId) (cZ : ClassId) (a_this : Nat) (a_gravel : Nat) (a_kind : Nat) (a_own : Nat) (a_likely : Nat) (a_tape : Nat) (a_holding : Nat) (a_rowLength : Nat) (a_rowOf : Nat) (a_refusals : Nat) (a_old : Nat) (a_ahead : Nat) (a_cost : Nat) (a_may : Nat) (a_rest : Nat) (a_way : Nat) (c_n : Int32) (c_rain : Int32) (c_ear : Int32) (c_many : Int32) (c_seed : Int32) (c_taped : Int32) (c_from : Int32) (c_to : Int32) (c_token : Int32) (c_value : Int32) (c_imaged : Int32) (c_gravel : (Nat → Int32)) (c_kind : (Nat → Int32)) (c_own : (Nat → Int32)) (c_cost : (Nat → Int32)) (c_may : (Nat → Int32)) (c_rest : (Nat → Int32)) (c_way : (Nat → Int32)) : va_W := [(a_this, .inr (5, [.int c_n, .ref a_gravel, .int c_rain, .int c_ear, .int c_many, .ref a_kind, .ref a_own, .ref a_likely, .int c_seed, .int c_taped, .ref a_tape, .int c_from, .int c_to, .int c_token, .int c_value, .ref a_holding, .ref a_rowLength, .ref a_rowOf, .ref a_refusals, .int c_imaged, .ref a_old, .ref a_ahead, .ref a_cost, .ref a_may, .ref a_rest, .ref a_way])), (a_gravel, .inl (cI, 36, .inl c_gravel)), (a_kind, .inl (cI, 8, .inl c_kind)), (a_own, .inl (cI, 8, .inl c_own)), (a_cost, .inl (cI, 36, .inl c_cost)), (a_may, .inl (cZ, 36, .inl c_may)), (a_rest, .inl (cI, 36, .inl c_rest)), (a_way, .inl (cI, 6, .inl c_way))]
abbrev rm_R_quiet : Room := { frames := 5, cells := 0, slots := 0, locals := 122 }
set_option maxRecDepth 100000 in
set_option maxHeartbeats 4000000 in
theorem s_R_quiet (C : kC p l e rm_R_quiet s m args below meth c D (tyG cI cL cZ) A 2 cX5_quiet yX5_quiet.cls (Cond.code yX5_quiet cX5_quiet 2 (some .int) :: WS) (some .int)) {a_this : Nat} {a_gravel : Nat} {a_kind : Nat} {a_own : Nat} {a_likely : Nat} {a_tape : Nat} {a_holding : Nat} {a_rowLength : Nat} {a_rowOf : Nat} {a_refusals : Nat} {a_old : Nat} {a_ahead : Nat} {a_cost : Nat} {a_may : Nat} {a_rest : Nat} {a_way : Nat} {v1 : Int32} {c_n : Int32} {c_rain : Int32} {c_ear : Int32} {c_many : Int32} {c_seed : Int32} {c_taped : Int32} {c_from : Int32} {c_to : Int32} {c_token : Int32} {c_value : Int32} {c_imaged : Int32} {c_gravel : (Nat → Int32)} {c_kind : (Nat → Int32)} {c_own : (Nat → Int32)} {c_cost : (Nat → Int32)} {c_may : (Nat → Int32)} {c_rest : (Nat → Int32)} {c_way : (Nat → Int32)} {x : (Int32 × (Nat → Int32) × (Nat → Int32) × (Nat → Int32) × (Nat → Int32))} (h : f_R_quiet v1 c_n c_rain c_gravel c_kind c_own c_cost c_may c_rest c_way = some x) :
    kW p l e rm_R_quiet s m args below meth c D A 2 (cells_R_quiet cI cL cZ a_this a_gravel a_kind a_own a_likely a_tape a_holding a_rowLength a_rowOf a_refusals a_old a_ahead a_cost a_may a_rest a_way c_n c_rain c_ear c_many c_seed c_taped c_from c_to c_token c_value c_imaged c_gravel c_kind c_own c_cost c_may c_rest c_way) [(0, .ref a_this), (1, .int v1)] (MQ below (kQi D A (cells_R_quiet cI cL cZ a_this a_gravel a_kind a_own a_likely a_tape a_holding a_rowLength a_rowOf a_refusals a_old a_ahead a_cost a_may a_rest a_way c_n c_rain c_ear c_many c_seed c_taped c_from c_to c_token c_value c_imaged c_gravel c_kind c_own x.2.1 x.2.2.1 x.2.2.2.1 x.2.2.2.2) x.1) args s 0 0 A) 0 [] := by
  unfold f_R_quiet at h
  refine k_aload_n C dX5_quiet_0 0 rfl rfl ?_
  refine k_iload_n C dX5_quiet_1 1 rfl rfl ?_
  obtain ⟨x1, hx1, h⟩ := bindE h
  refine kcallU_v C (wc := (cells_R_costs cI cL cZ a_this a_gravel a_kind a_own a_likely a_tape a_holding a_rowLength a_rowOf a_refusals a_old a_ahead a_cost a_may a_rest a_way c_n c_rain c_ear c_many c_seed c_taped c_from c_to c_token c_value c_imaged c_gravel c_kind c_own c_cost c_may)) (w1 := (cells_R_costs cI cL cZ a_this a_gravel a_kind a_own a_likely a_tape a_holding a_rowLength a_rowOf a_refusals a_old a_ahead a_cost a_may a_rest a_way c_n c_rain c_ear c_many c_seed c_taped c_from c_to c_token c_value c_imaged c_gravel c_kind c_own x1.1 x1.2)) (ws' := (cells_R_quiet cI cL cZ a_this a_gravel a_kind a_own a_likely a_tape a_holding a_rowLength a_rowOf a_refusals a_old a_ahead a_cost a_may a_rest a_way c_n c_rain c_ear c_many c_seed c_taped c_from c_to c_token c_value c_imaged c_gravel c_kind c_own x1.1 x1.2 c_rest c_way)) [0, 1, 2, 3, 4, 5] (fun H locs ls hP hD hS hF hz => krunV C (q0 := 0) (ci := 5) (c_R_costs l D cI cL cZ H.size a_this a_gravel a_kind a_own a_likely a_tape a_holding a_rowLength a_rowOf a_refusals a_old a_ahead a_cost a_may a_rest a_way v1 c_n c_rain c_ear c_many c_seed c_taped c_from c_to c_token c_value c_imaged c_gravel c_kind c_own c_cost c_may x1 hx1) (cwV 1 C.2.2.2.2.1 (gV wq_675 wq_676 wq_677 wq_551 wq_674) rfl rfl rfl (by decide +kernel) ⟨(Nat.le_of_ble_eq_true rfl), (Nat.le_of_ble_eq_true rfl)⟩) rfl rfl kEnv_T rfl rfl (Nat.le_of_ble_eq_true rfl) dX5_quiet_2 hP hD hz) rfl (by decide) rfl rfl ?_
  refine k_aload_n C dX5_quiet_5 0 rfl rfl ?_
  refine k_iconst C (v := (1 : Int32)) dX5_quiet_6 (by decide) ?_
  obtain ⟨x2, hx2, h⟩ := bindE h
  refine kcallU_i C (wc := (cells_R_sums cI cL cZ a_this a_gravel a_kind a_own a_likely a_tape a_holding a_rowLength a_rowOf a_refusals a_old a_ahead a_cost a_may a_rest a_way c_n c_rain c_ear c_many c_seed c_taped c_from c_to c_token c_value c_imaged x1.1 c_rest c_way)) (w1 := (cells_R_sums cI cL cZ a_this a_gravel a_kind a_own a_likely a_tape a_holding a_rowLength a_rowOf a_refusals a_old a_ahead a_cost a_may a_rest a_way c_n c_rain c_ear c_many c_seed c_taped c_from c_to c_token c_value c_imaged x1.1 x2.2.1 x2.2.2)) (ws' := (cells_R_quiet cI cL cZ a_this a_gravel a_kind a_own a_likely a_tape a_holding a_rowLength a_rowOf a_refusals a_old a_ahead a_cost a_may a_rest a_way c_n c_rain c_ear c_many c_seed c_taped c_from c_to c_token c_value c_imaged c_gravel c_kind c_own x1.1 x1.2 x2.2.1 x2.2.2)) (r := x2.1) [0, 4, 6, 7] (fun H locs ls hP hD hS hF hz => krunV C (q0 := 0) (ci := 5) (c_R_sums l D cI cL cZ H.size a_this a_gravel a_kind a_own a_likely a_tape a_holding a_rowLength a_rowOf a_refusals a_old a_ahead a_cost a_may a_rest a_way (1 : Int32) c_n c_rain c_ear c_many c_seed c_taped c_from c_to c_token c_value c_imaged x1.1 c_rest c_way x2 hx2) (cwV 1 C.2.2.2.2.1 (gV wq_679 wq_680 wq_681 wq_551 wq_678) rfl rfl rfl (by decide +kernel) ⟨(Nat.le_of_ble_eq_true rfl), (Nat.le_of_ble_eq_true rfl)⟩) rfl rfl kEnv_T rfl rfl (Nat.le_of_ble_eq_true rfl) dX5_quiet_7 hP hD hz) rfl (by decide) rfl rfl ?_
  obtain rfl := Option.some.inj h
  exact kret_i C rfl dX5_quiet_10
theorem c_R_quiet (l : Launch) (D : va_G) (cI : ClassId) (cL : ClassId) (cZ : ClassId) (sz : Nat) (a_this : Nat) (a_gravel : Nat) (a_kind : Nat) (a_own : Nat) (a_likely : Nat) (a_tape : Nat) (a_holding : Nat) (a_rowLength : Nat) (a_rowOf : Nat) (a_refusals : Nat) (a_old : Nat) (a_ahead : Nat) (a_cost : Nat) (a_may : Nat) (a_rest : Nat) (a_way : Nat) (v1 : Int32) (c_n : Int32) (c_rain : Int32) (c_ear : Int32) (c_many : Int32) (c_seed : Int32) (c_taped : Int32) (c_from : Int32) (c_to : Int32) (c_token : Int32) (c_value : Int32) (c_imaged : Int32) (c_gravel : (Nat → Int32)) (c_kind : (Nat → Int32)) (c_own : (Nat → Int32)) (c_cost : (Nat → Int32)) (c_may : (Nat → Int32)) (c_rest : (Nat → Int32)) (c_way : (Nat → Int32)) (x : (Int32 × (Nat → Int32) × (Nat → Int32) × (Nat → Int32) × (Nat → Int32))) (h : f_R_quiet v1 c_n c_rain c_gravel c_kind c_own c_cost c_may c_rest c_way = some x) :
    Met l yX5_quiet (Cond.code yX5_quiet cX5_quiet 2 (some .int) :: WS) rm_R_quiet (kP D (tyG cI cL cZ) kTrue [.ref a_this, .int v1] sz (cells_R_quiet cI cL cZ a_this a_gravel a_kind a_own a_likely a_tape a_holding a_rowLength a_rowOf a_refusals a_old a_ahead a_cost a_may a_rest a_way c_n c_rain c_ear c_many c_seed c_taped c_from c_to c_token c_value c_imaged c_gravel c_kind c_own c_cost c_may c_rest c_way)) (kQi D (va_A (cells_R_quiet cI cL cZ a_this a_gravel a_kind a_own a_likely a_tape a_holding a_rowLength a_rowOf a_refusals a_old a_ahead a_cost a_may a_rest a_way c_n c_rain c_ear c_many c_seed c_taped c_from c_to c_token c_value c_imaged c_gravel c_kind c_own c_cost c_may c_rest c_way) sz) (cells_R_quiet cI cL cZ a_this a_gravel a_kind a_own a_likely a_tape a_holding a_rowLength a_rowOf a_refusals a_old a_ahead a_cost a_may a_rest a_way c_n c_rain c_ear c_many c_seed c_taped c_from c_to c_token c_value c_imaged c_gravel c_kind c_own x.2.1 x.2.2.1 x.2.2.2.1 x.2.2.2.2) x.1) 0 0 (va_A (cells_R_quiet cI cL cZ a_this a_gravel a_kind a_own a_likely a_tape a_holding a_rowLength a_rowOf a_refusals a_old a_ahead a_cost a_may a_rest a_way c_n c_rain c_ear c_many c_seed c_taped c_from c_to c_token c_value c_imaged c_gravel c_kind c_own c_cost c_may c_rest c_way) sz) :=
  kmet (by decide) (Nat.le_of_ble_eq_true rfl) rfl (fun p e s m below meth c C hE => s_R_quiet C h)
abbrev cells_R_quietest (cI : ClassId) (cL : ClassId) (cZ : ClassId) (a_this : Nat) (a_gravel : Nat) (a_kind : Nat) (a_own : Nat) (a_likely : Nat) (a_tape : Nat) (a_holding : Nat) (a_rowLength : Nat) (a_rowOf : Nat) (a_refusals : Nat) (a_old : Nat) (a_ahead : Nat) (a_cost : Nat) (a_may : Nat) (a_rest : Nat) (a_way : Nat) (c_n : Int32) (c_rain : Int32) (c_ear : Int32) (c_many : Int32) (c_seed : Int32) (c_taped : Int32) (c_from : Int32) (c_to : Int32) (c_token : Int32) (c_value : Int32) (c_imaged : Int32) (c_gravel : (Nat → Int32)) (c_kind : (Nat → Int32)) (c_own : (Nat → Int32)) (c_refusals : (Nat → Int32)) (c_cost : (Nat → Int32)) (c_may : (Nat → Int32)) (c_rest : (Nat → Int32)) (c_way : (Nat → Int32)) : va_W := [(a_this, .inr (5, [.int c_n, .ref a_gravel, .int c_rain, .int c_ear, .int c_many, .ref a_kind, .ref a_own, .ref a_likely, .int c_seed, .int c_taped, .ref a_tape, .int c_from, .int c_to, .int c_token, .int c_value, .ref a_holding, .ref a_rowLength, .ref a_rowOf, .ref a_refusals, .int c_imaged, .ref a_old, .ref a_ahead, .ref a_cost, .ref a_may, .ref a_rest, .ref a_way])), (a_gravel, .inl (cI, 36, .inl c_gravel)), (a_kind, .inl (cI, 8, .inl c_kind)), (a_own, .inl (cI, 8, .inl c_own)), (a_refusals, .inl (cI, 7, .inl c_refusals)), (a_cost, .inl (cI, 36, .inl c_cost)), (a_may, .inl (cZ, 36, .inl c_may)), (a_rest, .inl (cI, 36, .inl c_rest)), (a_way, .inl (cI, 6, .inl c_way))]
abbrev rm_R_quietest : Room := { frames := 6, cells := 0, slots := 0, locals := 143 }
set_option maxRecDepth 100000 in
set_option maxHeartbeats 4000000 in
theorem s_R_quietest_j16 (C : kC p l e rm_R_quietest s m args below meth c D (tyG cI cL cZ) A 4 cX5_quietest yX5_quietest.cls (Cond.code yX5_quietest cX5_quietest 4 (some .int) :: WS) (some .int)) {a_this : Nat} {a_gravel : Nat} {a_kind : Nat} {a_own : Nat} {a_likely : Nat} {a_tape : Nat} {a_holding : Nat} {a_rowLength : Nat} {a_rowOf : Nat} {a_refusals : Nat} {a_old : Nat} {a_ahead : Nat} {a_cost : Nat} {a_may : Nat} {a_rest : Nat} {a_way : Nat} {c_n : Int32} {c_rain : Int32} {c_ear : Int32} {c_many : Int32} {c_seed : Int32} {c_taped : Int32} {c_from : Int32} {c_to : Int32} {c_token : Int32} {c_value : Int32} {c_imaged : Int32} {c_gravel : (Nat → Int32)} {c_kind : (Nat → Int32)} {c_own : (Nat → Int32)} {c_refusals : (Nat → Int32)} {c_cost : (Nat → Int32)} {c_may : (Nat → Int32)} {c_rest : (Nat → Int32)} {c_way : (Nat → Int32)} {x : (Int32 × (Nat → Int32) × (Nat → Int32) × (Nat → Int32) × (Nat → Int32) × (Nat → Int32))} (h : f_R_quietest_j16 c_refusals c_cost c_may c_rest c_way = some x) :
    kW p l e rm_R_quietest s m args below meth c D A 4 (cells_R_quietest cI cL cZ a_this a_gravel a_kind a_own a_likely a_tape a_holding a_rowLength a_rowOf a_refusals a_old a_ahead a_cost a_may a_rest a_way c_n c_rain c_ear c_many c_seed c_taped c_from c_to c_token c_value c_imaged c_gravel c_kind c_own c_refusals c_cost c_may c_rest c_way) [(0, .ref a_this)] (MQ below (kQi D A (cells_R_quietest cI cL cZ a_this a_gravel a_kind a_own a_likely a_tape a_holding a_rowLength a_rowOf a_refusals a_old a_ahead a_cost a_may a_rest a_way c_n c_rain c_ear c_many c_seed c_taped c_from c_to c_token c_value c_imaged c_gravel c_kind c_own x.2.1 x.2.2.1 x.2.2.2.1 x.2.2.2.2.1 x.2.2.2.2.2) x.1) args s 0 0 A) 16 [] := by
  unfold f_R_quietest_j16 at h
  refine k_aload_n C dX5_quietest_16 0 rfl rfl ?_
  refine k_bipush C (v := (-2 : Int32)) dX5_quietest_17 (by decide) ?_
  obtain ⟨x2, hx2, h⟩ := bindE h
  refine kcallU_i C (wc := (cells_R_no cI cL cZ a_this a_gravel a_kind a_own a_likely a_tape a_holding a_rowLength a_rowOf a_refusals a_old a_ahead a_cost a_may a_rest a_way c_n c_rain c_ear c_many c_seed c_taped c_from c_to c_token c_value c_imaged c_refusals)) (w1 := (cells_R_no cI cL cZ a_this a_gravel a_kind a_own a_likely a_tape a_holding a_rowLength a_rowOf a_refusals a_old a_ahead a_cost a_may a_rest a_way c_n c_rain c_ear c_many c_seed c_taped c_from c_to c_token c_value c_imaged x2.2)) (ws' := (cells_R_quietest cI cL cZ a_this a_gravel a_kind a_own a_likely a_tape a_holding a_rowLength a_rowOf a_refusals a_old a_ahead a_cost a_may a_rest a_way c_n c_rain c_ear c_many c_seed c_taped c_from c_to c_token c_value c_imaged c_gravel c_kind c_own x2.2 c_cost c_may c_rest c_way)) (r := x2.1) [0, 4] (fun H locs ls hP hD hS hF hz => krunV C (q0 := 0) (ci := 5) (c_R_no l D cI cL cZ H.size a_this a_gravel a_kind a_own a_likely a_tape a_holding a_rowLength a_rowOf a_refusals a_old a_ahead a_cost a_may a_rest a_way (-2 : Int32) c_n c_rain c_ear c_many c_seed c_taped c_from c_to c_token c_value c_imaged c_refusals x2 hx2) (cwV 1 C.2.2.2.2.1 (gV wq_558 wq_559 wq_560 wq_551 wq_557) rfl rfl rfl (by decide +kernel) ⟨(Nat.le_of_ble_eq_true rfl), (Nat.le_of_ble_eq_true rfl)⟩) rfl rfl kEnv_T rfl rfl (Nat.le_of_ble_eq_true rfl) dX5_quietest_19 hP hD hz) rfl (by decide) rfl rfl ?_
  obtain rfl := Option.some.inj h
  exact kret_i C rfl dX5_quietest_22
set_option maxRecDepth 100000 in
set_option maxHeartbeats 4000000 in
theorem s_R_quietest (C : kC p l e rm_R_quietest s m args below meth c D (tyG cI cL cZ) A 4 cX5_quietest yX5_quietest.cls (Cond.code yX5_quietest cX5_quietest 4 (some .int) :: WS) (some .int)) {a_this : Nat} {a_gravel : Nat} {a_kind : Nat} {a_own : Nat} {a_likely : Nat} {a_tape : Nat} {a_holding : Nat} {a_rowLength : Nat} {a_rowOf : Nat} {a_refusals : Nat} {a_old : Nat} {a_ahead : Nat} {a_cost : Nat} {a_may : Nat} {a_rest : Nat} {a_way : Nat} {v1 : Int32} {v2 : Int32} {c_n : Int32} {c_rain : Int32} {c_ear : Int32} {c_many : Int32} {c_seed : Int32} {c_taped : Int32} {c_from : Int32} {c_to : Int32} {c_token : Int32} {c_value : Int32} {c_imaged : Int32} {c_gravel : (Nat → Int32)} {c_kind : (Nat → Int32)} {c_own : (Nat → Int32)} {c_refusals : (Nat → Int32)} {c_cost : (Nat → Int32)} {c_may : (Nat → Int32)} {c_rest : (Nat → Int32)} {c_way : (Nat → Int32)} {x : (Int32 × (Nat → Int32) × (Nat → Int32) × (Nat → Int32) × (Nat → Int32) × (Nat → Int32))} (h : f_R_quietest v1 v2 c_n c_rain c_many c_gravel c_kind c_own c_refusals c_cost c_may c_rest c_way = some x) :
    kW p l e rm_R_quietest s m args below meth c D A 4 (cells_R_quietest cI cL cZ a_this a_gravel a_kind a_own a_likely a_tape a_holding a_rowLength a_rowOf a_refusals a_old a_ahead a_cost a_may a_rest a_way c_n c_rain c_ear c_many c_seed c_taped c_from c_to c_token c_value c_imaged c_gravel c_kind c_own c_refusals c_cost c_may c_rest c_way) [(0, .ref a_this), (1, .int v1), (2, .int v2)] (MQ below (kQi D A (cells_R_quietest cI cL cZ a_this a_gravel a_kind a_own a_likely a_tape a_holding a_rowLength a_rowOf a_refusals a_old a_ahead a_cost a_may a_rest a_way c_n c_rain c_ear c_many c_seed c_taped c_from c_to c_token c_value c_imaged c_gravel c_kind c_own x.2.1 x.2.2.1 x.2.2.2.1 x.2.2.2.2.1 x.2.2.2.2.2) x.1) args s 0 0 A) 0 [] := by
  unfold f_R_quietest at h
  refine k_aload_n C dX5_quietest_0 0 rfl rfl ?_
  refine k_iload_n C dX5_quietest_1 1 rfl rfl ?_
  obtain ⟨x1, hx1, h⟩ := bindE h
  refine kcallR_i C (wc := (cells_R_isFeet cI cL cZ a_this a_gravel a_kind a_own a_likely a_tape a_holding a_rowLength a_rowOf a_refusals a_old a_ahead a_cost a_may a_rest a_way c_n c_rain c_ear c_many c_seed c_taped c_from c_to c_token c_value c_imaged)) (r := x1) [0] (fun H locs ls hP hD hS hF hz => krunV C (q0 := 0) (ci := 5) (c_R_isFeet l D cI cL cZ H.size a_this a_gravel a_kind a_own a_likely a_tape a_holding a_rowLength a_rowOf a_refusals a_old a_ahead a_cost a_may a_rest a_way v1 c_n c_rain c_ear c_many c_seed c_taped c_from c_to c_token c_value c_imaged x1 hx1) (cwV 1 C.2.2.2.2.1 (gV wq_575 wq_576 wq_577 wq_551 wq_574) rfl rfl rfl (by decide +kernel) ⟨(Nat.le_of_ble_eq_true rfl), (Nat.le_of_ble_eq_true rfl)⟩) rfl rfl kEnv_T rfl rfl (Nat.le_of_ble_eq_true rfl) dX5_quietest_2 hP hD hz) rfl (by decide) ?_
  refine k_if_eq C (tgt := 16) dX5_quietest_5 (by decide) (fun c_5 => ?_) (fun c_5 => ?_)
  · have h := ifT c_5 h
    refine k_lv (lv' := [(0, .ref a_this)]) [0] rfl ?_
    exact s_R_quietest_j16 C h
  · have h := ifF c_5 h
    refine k_aload_n C dX5_quietest_8 0 rfl rfl ?_
    refine k_iload_n C dX5_quietest_9 2 rfl rfl ?_
    obtain ⟨x3, hx3, h⟩ := bindE h
    refine kcallR_i C (wc := (cells_R_isPlace cI cL cZ a_this a_gravel a_kind a_own a_likely a_tape a_holding a_rowLength a_rowOf a_refusals a_old a_ahead a_cost a_may a_rest a_way c_n c_rain c_ear c_many c_seed c_taped c_from c_to c_token c_value c_imaged)) (r := x3) [0] (fun H locs ls hP hD hS hF hz => krunV C (q0 := 0) (ci := 5) (c_R_isPlace l D cI cL cZ H.size a_this a_gravel a_kind a_own a_likely a_tape a_holding a_rowLength a_rowOf a_refusals a_old a_ahead a_cost a_may a_rest a_way v2 c_n c_rain c_ear c_many c_seed c_taped c_from c_to c_token c_value c_imaged x3 hx3) (cwV 1 C.2.2.2.2.1 (gV wq_683 wq_684 wq_685 wq_551 wq_682) rfl rfl rfl (by decide +kernel) ⟨(Nat.le_of_ble_eq_true rfl), (Nat.le_of_ble_eq_true rfl)⟩) rfl rfl kEnv_T rfl rfl (Nat.le_of_ble_eq_true rfl) dX5_quietest_10 hP hD hz) rfl (by decide) ?_
    refine k_if_ne C (tgt := 23) dX5_quietest_13 (by decide) (fun c_13 => ?_) (fun c_13 => ?_)
    · have h := ifF c_13 h
      refine k_aload_n C dX5_quietest_23 0 rfl rfl ?_
      refine k_iload_n C dX5_quietest_24 1 rfl rfl ?_
      obtain ⟨x4, hx4, h⟩ := bindE h
      refine kcallU_i C (wc := (cells_R_quiet cI cL cZ a_this a_gravel a_kind a_own a_likely a_tape a_holding a_rowLength a_rowOf a_refusals a_old a_ahead a_cost a_may a_rest a_way c_n c_rain c_ear c_many c_seed c_taped c_from c_to c_token c_value c_imaged c_gravel c_kind c_own c_cost c_may c_rest c_way)) (w1 := (cells_R_quiet cI cL cZ a_this a_gravel a_kind a_own a_likely a_tape a_holding a_rowLength a_rowOf a_refusals a_old a_ahead a_cost a_may a_rest a_way c_n c_rain c_ear c_many c_seed c_taped c_from c_to c_token c_value c_imaged c_gravel c_kind c_own x4.2.1 x4.2.2.1 x4.2.2.2.1 x4.2.2.2.2)) (ws' := (cells_R_quietest cI cL cZ a_this a_gravel a_kind a_own a_likely a_tape a_holding a_rowLength a_rowOf a_refusals a_old a_ahead a_cost a_may a_rest a_way c_n c_rain c_ear c_many c_seed c_taped c_from c_to c_token c_value c_imaged c_gravel c_kind c_own c_refusals x4.2.1 x4.2.2.1 x4.2.2.2.1 x4.2.2.2.2)) (r := x4.1) [0, 1, 2, 3, 5, 6, 7, 8] (fun H locs ls hP hD hS hF hz => krunV C (q0 := 0) (ci := 5) (c_R_quiet l D cI cL cZ H.size a_this a_gravel a_kind a_own a_likely a_tape a_holding a_rowLength a_rowOf a_refusals a_old a_ahead a_cost a_may a_rest a_way v1 c_n c_rain c_ear c_many c_seed c_taped c_from c_to c_token c_value c_imaged c_gravel c_kind c_own c_cost c_may c_rest c_way x4 hx4) (cwV 1 C.2.2.2.2.1 (gV wq_687 wq_688 wq_689 wq_551 wq_686) rfl rfl rfl (by decide +kernel) ⟨(Nat.le_of_ble_eq_true rfl), (Nat.le_of_ble_eq_true rfl)⟩) rfl rfl kEnv_T rfl rfl (Nat.le_of_ble_eq_true rfl) dX5_quietest_25 hP hD hz) rfl (by decide) rfl rfl ?_
      refine k_istore_n C (lv' := [(3, .int x4.1), (0, .ref a_this), (1, .int v1), (2, .int v2)]) dX5_quietest_28 rfl (by decide) rfl ?_
      refine k_iload_n C dX5_quietest_29 3 rfl rfl ?_
      refine k_iconst C (v := (-1 : Int32)) dX5_quietest_30 (by decide) ?_
      refine k_icmp_ne C (tgt := 38) dX5_quietest_31 (by decide) (fun c_31 => ?_) (fun c_31 => ?_)
      · have h := ifF c_31 h
        refine k_aload_n C dX5_quietest_38 1 rfl rfl ?_
        refine k_get C (C0 := RX5) (T := TX5) (N := 26) (fun w h => List.mem_cons_of_mem _ (us_R w h)) 0 rfl rfl 25 (by decide) (List.mem_cons_of_mem _ wq_673) rfl rfl dX5_quietest_39 ?_
        refine k_iload_n C dX5_quietest_42 3 rfl rfl ?_
        obtain ⟨x5, hx5, h⟩ := bindE h
        refine k_iald C 8 0 rfl rfl hx5 dX5_quietest_43 ?_
        obtain rfl := Option.some.inj h
        exact kret_i C rfl dX5_quietest_44
      · have h := ifT c_31 h
        refine k_iload_n C dX5_quietest_34 0 rfl rfl ?_
        refine k_goto C (tgt := 44) dX5_quietest_35 (by decide) ?_
        obtain rfl := Option.some.inj h
        exact kret_i C rfl dX5_quietest_44
    · have h := ifT c_13 h
      refine k_lv (lv' := [(0, .ref a_this)]) [0] rfl ?_
      exact s_R_quietest_j16 C h
theorem c_R_quietest (l : Launch) (D : va_G) (cI : ClassId) (cL : ClassId) (cZ : ClassId) (sz : Nat) (a_this : Nat) (a_gravel : Nat) (a_kind : Nat) (a_own : Nat) (a_likely : Nat) (a_tape : Nat) (a_holding : Nat) (a_rowLength : Nat) (a_rowOf : Nat) (a_refusals : Nat) (a_old : Nat) (a_ahead : Nat) (a_cost : Nat) (a_may : Nat) (a_rest : Nat) (a_way : Nat) (v1 : Int32) (v2 : Int32) (c_n : Int32) (c_rain : Int32) (c_ear : Int32) (c_many : Int32) (c_seed : Int32) (c_taped : Int32) (c_from : Int32) (c_to : Int32) (c_token : Int32) (c_value : Int32) (c_imaged : Int32) (c_gravel : (Nat → Int32)) (c_kind : (Nat → Int32)) (c_own : (Nat → Int32)) (c_refusals : (Nat → Int32)) (c_cost : (Nat → Int32)) (c_may : (Nat → Int32)) (c_rest : (Nat → Int32)) (c_way : (Nat → Int32)) (x : (Int32 × (Nat → Int32) × (Nat → Int32) × (Nat → Int32) × (Nat → Int32) × (Nat → Int32))) (h : f_R_quietest v1 v2 c_n c_rain c_many c_gravel c_kind c_own c_refusals c_cost c_may c_rest c_way = some x) :
    Met l yX5_quietest (Cond.code yX5_quietest cX5_quietest 4 (some .int) :: WS) rm_R_quietest (kP D (tyG cI cL cZ) kTrue [.ref a_this, .int v1, .int v2] sz (cells_R_quietest cI cL cZ a_this a_gravel a_kind a_own a_likely a_tape a_holding a_rowLength a_rowOf a_refusals a_old a_ahead a_cost a_may a_rest a_way c_n c_rain c_ear c_many c_seed c_taped c_from c_to c_token c_value c_imaged c_gravel c_kind c_own c_refusals c_cost c_may c_rest c_way)) (kQi D (va_A (cells_R_quietest cI cL cZ a_this a_gravel a_kind a_own a_likely a_tape a_holding a_rowLength a_rowOf a_refusals a_old a_ahead a_cost a_may a_rest a_way c_n c_rain c_ear c_many c_seed c_taped c_from c_to c_token c_value c_imaged c_gravel c_kind c_own c_refusals c_cost c_may c_rest c_way) sz) (cells_R_quietest cI cL cZ a_this a_gravel a_kind a_own a_likely a_tape a_holding a_rowLength a_rowOf a_refusals a_old a_ahead a_cost a_may a_rest a_way c_n c_rain c_ear c_many c_seed c_taped c_from c_to c_token c_value c_imaged c_gravel c_kind c_own x.2.1 x.2.2.1 x.2.2.2.1 x.2.2.2.2.1 x.2.2.2.2.2) x.1) 0 0 (va_A (cells_R_quietest cI cL cZ a_this a_gravel a_kind a_own a_likely a_tape a_holding a_rowLength a_rowOf a_refusals a_old a_ahead a_cost a_may a_rest a_way c_n c_rain c_ear c_many c_seed c_taped c_from c_to c_token c_value c_imaged c_gravel c_kind c_own c_refusals c_cost c_may c_rest c_way) sz) :=
  kmet (by decide) (Nat.le_of_ble_eq_true rfl) rfl (fun p e s m below meth c C hE => s_R_quietest C h)
abbrev cells_R_loudest (cI : ClassId) (cL : ClassId) (cZ : ClassId) (a_this : Nat) (a_gravel : Nat) (a_kind : Nat) (a_own : Nat) (a_likely : Nat) (a_tape : Nat) (a_holding : Nat) (a_rowLength : Nat) (a_rowOf : Nat) (a_refusals : Nat) (a_old : Nat) (a_ahead : Nat) (a_cost : Nat) (a_may : Nat) (a_rest : Nat) (a_way : Nat) (c_n : Int32) (c_rain : Int32) (c_ear : Int32) (c_many : Int32) (c_seed : Int32) (c_taped : Int32) (c_from : Int32) (c_to : Int32) (c_token : Int32) (c_value : Int32) (c_imaged : Int32) (c_gravel : (Nat → Int32)) (c_kind : (Nat → Int32)) (c_own : (Nat → Int32)) (c_refusals : (Nat → Int32)) (c_cost : (Nat → Int32)) (c_may : (Nat → Int32)) (c_rest : (Nat → Int32)) (c_way : (Nat → Int32)) : va_W := [(a_this, .inr (5, [.int c_n, .ref a_gravel, .int c_rain, .int c_ear, .int c_many, .ref a_kind, .ref a_own, .ref a_likely, .int c_seed, .int c_taped, .ref a_tape, .int c_from, .int c_to, .int c_token, .int c_value, .ref a_holding, .ref a_rowLength, .ref a_rowOf, .ref a_refusals, .int c_imaged, .ref a_old, .ref a_ahead, .ref a_cost, .ref a_may, .ref a_rest, .ref a_way])), (a_gravel, .inl (cI, 36, .inl c_gravel)), (a_kind, .inl (cI, 8, .inl c_kind)), (a_own, .inl (cI, 8, .inl c_own)), (a_refusals, .inl (cI, 7, .inl c_refusals)), (a_cost, .inl (cI, 36, .inl c_cost)), (a_may, .inl (cZ, 36, .inl c_may)), (a_rest, .inl (cI, 36, .inl c_rest)), (a_way, .inl (cI, 6, .inl c_way))]
abbrev rm_R_loudest : Room := { frames := 5, cells := 0, slots := 0, locals := 122 }
set_option maxRecDepth 100000 in
set_option maxHeartbeats 4000000 in
theorem s_R_loudest_j16 (C : kC p l e rm_R_loudest s m args below meth c D (tyG cI cL cZ) A 4 cX5_loudest yX5_loudest.cls (Cond.code yX5_loudest cX5_loudest 4 (some .int) :: WS) (some .int)) {a_this : Nat} {a_gravel : Nat} {a_kind : Nat} {a_own : Nat} {a_likely : Nat} {a_tape : Nat} {a_holding : Nat} {a_rowLength : Nat} {a_rowOf : Nat} {a_refusals : Nat} {a_old : Nat} {a_ahead : Nat} {a_cost : Nat} {a_may : Nat} {a_rest : Nat} {a_way : Nat} {c_n : Int32} {c_rain : Int32} {c_ear : Int32} {c_many : Int32} {c_seed : Int32} {c_taped : Int32} {c_from : Int32} {c_to : Int32} {c_token : Int32} {c_value : Int32} {c_imaged : Int32} {c_gravel : (Nat → Int32)} {c_kind : (Nat → Int32)} {c_own : (Nat → Int32)} {c_refusals : (Nat → Int32)} {c_cost : (Nat → Int32)} {c_may : (Nat → Int32)} {c_rest : (Nat → Int32)} {c_way : (Nat → Int32)} {x : (Int32 × (Nat → Int32) × (Nat → Int32) × (Nat → Int32) × (Nat → Int32) × (Nat → Int32))} (h : f_R_loudest_j16 c_refusals c_cost c_may c_rest c_way = some x) :
    kW p l e rm_R_loudest s m args below meth c D A 4 (cells_R_loudest cI cL cZ a_this a_gravel a_kind a_own a_likely a_tape a_holding a_rowLength a_rowOf a_refusals a_old a_ahead a_cost a_may a_rest a_way c_n c_rain c_ear c_many c_seed c_taped c_from c_to c_token c_value c_imaged c_gravel c_kind c_own c_refusals c_cost c_may c_rest c_way) [(0, .ref a_this)] (MQ below (kQi D A (cells_R_loudest cI cL cZ a_this a_gravel a_kind a_own a_likely a_tape a_holding a_rowLength a_rowOf a_refusals a_old a_ahead a_cost a_may a_rest a_way c_n c_rain c_ear c_many c_seed c_taped c_from c_to c_token c_value c_imaged c_gravel c_kind c_own x.2.1 x.2.2.1 x.2.2.2.1 x.2.2.2.2.1 x.2.2.2.2.2) x.1) args s 0 0 A) 16 [] := by
  unfold f_R_loudest_j16 at h
  refine k_aload_n C dX5_loudest_16 0 rfl rfl ?_
  refine k_bipush C (v := (-2 : Int32)) dX5_loudest_17 (by decide) ?_
  obtain ⟨x2, hx2, h⟩ := bindE h
  refine kcallU_i C (wc := (cells_R_no cI cL cZ a_this a_gravel a_kind a_own a_likely a_tape a_holding a_rowLength a_rowOf a_refusals a_old a_ahead a_cost a_may a_rest a_way c_n c_rain c_ear c_many c_seed c_taped c_from c_to c_token c_value c_imaged c_refusals)) (w1 := (cells_R_no cI cL cZ a_this a_gravel a_kind a_own a_likely a_tape a_holding a_rowLength a_rowOf a_refusals a_old a_ahead a_cost a_may a_rest a_way c_n c_rain c_ear c_many c_seed c_taped c_from c_to c_token c_value c_imaged x2.2)) (ws' := (cells_R_loudest cI cL cZ a_this a_gravel a_kind a_own a_likely a_tape a_holding a_rowLength a_rowOf a_refusals a_old a_ahead a_cost a_may a_rest a_way c_n c_rain c_ear c_many c_seed c_taped c_from c_to c_token c_value c_imaged c_gravel c_kind c_own x2.2 c_cost c_may c_rest c_way)) (r := x2.1) [0, 4] (fun H locs ls hP hD hS hF hz => krunV C (q0 := 0) (ci := 5) (c_R_no l D cI cL cZ H.size a_this a_gravel a_kind a_own a_likely a_tape a_holding a_rowLength a_rowOf a_refusals a_old a_ahead a_cost a_may a_rest a_way (-2 : Int32) c_n c_rain c_ear c_many c_seed c_taped c_from c_to c_token c_value c_imaged c_refusals x2 hx2) (cwV 1 C.2.2.2.2.1 (gV wq_558 wq_559 wq_560 wq_551 wq_557) rfl rfl rfl (by decide +kernel) ⟨(Nat.le_of_ble_eq_true rfl), (Nat.le_of_ble_eq_true rfl)⟩) rfl rfl kEnv_T rfl rfl (Nat.le_of_ble_eq_true rfl) dX5_loudest_19 hP hD hz) rfl (by decide) rfl rfl ?_
  obtain rfl := Option.some.inj h
  exact kret_i C rfl dX5_loudest_22
set_option maxRecDepth 100000 in
set_option maxHeartbeats 4000000 in
theorem s_R_loudest (C : kC p l e rm_R_loudest s m args below meth c D (tyG cI cL cZ) A 4 cX5_loudest yX5_loudest.cls (Cond.code yX5_loudest cX5_loudest 4 (some .int) :: WS) (some .int)) {a_this : Nat} {a_gravel : Nat} {a_kind : Nat} {a_own : Nat} {a_likely : Nat} {a_tape : Nat} {a_holding : Nat} {a_rowLength : Nat} {a_rowOf : Nat} {a_refusals : Nat} {a_old : Nat} {a_ahead : Nat} {a_cost : Nat} {a_may : Nat} {a_rest : Nat} {a_way : Nat} {v1 : Int32} {v2 : Int32} {c_n : Int32} {c_rain : Int32} {c_ear : Int32} {c_many : Int32} {c_seed : Int32} {c_taped : Int32} {c_from : Int32} {c_to : Int32} {c_token : Int32} {c_value : Int32} {c_imaged : Int32} {c_gravel : (Nat → Int32)} {c_kind : (Nat → Int32)} {c_own : (Nat → Int32)} {c_refusals : (Nat → Int32)} {c_cost : (Nat → Int32)} {c_may : (Nat → Int32)} {c_rest : (Nat → Int32)} {c_way : (Nat → Int32)} {x : (Int32 × (Nat → Int32) × (Nat → Int32) × (Nat → Int32) × (Nat → Int32) × (Nat → Int32))} (h : f_R_loudest v1 v2 c_n c_rain c_many c_gravel c_kind c_own c_refusals c_cost c_may c_rest c_way = some x) :
    kW p l e rm_R_loudest s m args below meth c D A 4 (cells_R_loudest cI cL cZ a_this a_gravel a_kind a_own a_likely a_tape a_holding a_rowLength a_rowOf a_refusals a_old a_ahead a_cost a_may a_rest a_way c_n c_rain c_ear c_many c_seed c_taped c_from c_to c_token c_value c_imaged c_gravel c_kind c_own c_refusals c_cost c_may c_rest c_way) [(0, .ref a_this), (1, .int v1), (2, .int v2)] (MQ below (kQi D A (cells_R_loudest cI cL cZ a_this a_gravel a_kind a_own a_likely a_tape a_holding a_rowLength a_rowOf a_refusals a_old a_ahead a_cost a_may a_rest a_way c_n c_rain c_ear c_many c_seed c_taped c_from c_to c_token c_value c_imaged c_gravel c_kind c_own x.2.1 x.2.2.1 x.2.2.2.1 x.2.2.2.2.1 x.2.2.2.2.2) x.1) args s 0 0 A) 0 [] := by
  unfold f_R_loudest at h
  refine k_aload_n C dX5_loudest_0 0 rfl rfl ?_
  refine k_iload_n C dX5_loudest_1 1 rfl rfl ?_
  obtain ⟨x1, hx1, h⟩ := bindE h
  refine kcallR_i C (wc := (cells_R_isFeet cI cL cZ a_this a_gravel a_kind a_own a_likely a_tape a_holding a_rowLength a_rowOf a_refusals a_old a_ahead a_cost a_may a_rest a_way c_n c_rain c_ear c_many c_seed c_taped c_from c_to c_token c_value c_imaged)) (r := x1) [0] (fun H locs ls hP hD hS hF hz => krunV C (q0 := 0) (ci := 5) (c_R_isFeet l D cI cL cZ H.size a_this a_gravel a_kind a_own a_likely a_tape a_holding a_rowLength a_rowOf a_refusals a_old a_ahead a_cost a_may a_rest a_way v1 c_n c_rain c_ear c_many c_seed c_taped c_from c_to c_token c_value c_imaged x1 hx1) (cwV 1 C.2.2.2.2.1 (gV wq_575 wq_576 wq_577 wq_551 wq_574) rfl rfl rfl (by decide +kernel) ⟨(Nat.le_of_ble_eq_true rfl), (Nat.le_of_ble_eq_true rfl)⟩) rfl rfl kEnv_T rfl rfl (Nat.le_of_ble_eq_true rfl) dX5_loudest_2 hP hD hz) rfl (by decide) ?_
  refine k_if_eq C (tgt := 16) dX5_loudest_5 (by decide) (fun c_5 => ?_) (fun c_5 => ?_)
  · have h := ifT c_5 h
    refine k_lv (lv' := [(0, .ref a_this)]) [0] rfl ?_
    exact s_R_loudest_j16 C h
  · have h := ifF c_5 h
    refine k_aload_n C dX5_loudest_8 0 rfl rfl ?_
    refine k_iload_n C dX5_loudest_9 2 rfl rfl ?_
    obtain ⟨x3, hx3, h⟩ := bindE h
    refine kcallR_i C (wc := (cells_R_isPlace cI cL cZ a_this a_gravel a_kind a_own a_likely a_tape a_holding a_rowLength a_rowOf a_refusals a_old a_ahead a_cost a_may a_rest a_way c_n c_rain c_ear c_many c_seed c_taped c_from c_to c_token c_value c_imaged)) (r := x3) [0] (fun H locs ls hP hD hS hF hz => krunV C (q0 := 0) (ci := 5) (c_R_isPlace l D cI cL cZ H.size a_this a_gravel a_kind a_own a_likely a_tape a_holding a_rowLength a_rowOf a_refusals a_old a_ahead a_cost a_may a_rest a_way v2 c_n c_rain c_ear c_many c_seed c_taped c_from c_to c_token c_value c_imaged x3 hx3) (cwV 1 C.2.2.2.2.1 (gV wq_683 wq_684 wq_685 wq_551 wq_682) rfl rfl rfl (by decide +kernel) ⟨(Nat.le_of_ble_eq_true rfl), (Nat.le_of_ble_eq_true rfl)⟩) rfl rfl kEnv_T rfl rfl (Nat.le_of_ble_eq_true rfl) dX5_loudest_10 hP hD hz) rfl (by decide) ?_
    refine k_if_ne C (tgt := 23) dX5_loudest_13 (by decide) (fun c_13 => ?_) (fun c_13 => ?_)
    · have h := ifF c_13 h
      refine k_aload_n C dX5_loudest_23 0 rfl rfl ?_
      refine k_iload_n C dX5_loudest_24 1 rfl rfl ?_
      obtain ⟨x4, hx4, h⟩ := bindE h
      refine kcallU_v C (wc := (cells_R_costs cI cL cZ a_this a_gravel a_kind a_own a_likely a_tape a_holding a_rowLength a_rowOf a_refusals a_old a_ahead a_cost a_may a_rest a_way c_n c_rain c_ear c_many c_seed c_taped c_from c_to c_token c_value c_imaged c_gravel c_kind c_own c_cost c_may)) (w1 := (cells_R_costs cI cL cZ a_this a_gravel a_kind a_own a_likely a_tape a_holding a_rowLength a_rowOf a_refusals a_old a_ahead a_cost a_may a_rest a_way c_n c_rain c_ear c_many c_seed c_taped c_from c_to c_token c_value c_imaged c_gravel c_kind c_own x4.1 x4.2)) (ws' := (cells_R_loudest cI cL cZ a_this a_gravel a_kind a_own a_likely a_tape a_holding a_rowLength a_rowOf a_refusals a_old a_ahead a_cost a_may a_rest a_way c_n c_rain c_ear c_many c_seed c_taped c_from c_to c_token c_value c_imaged c_gravel c_kind c_own c_refusals x4.1 x4.2 c_rest c_way)) [0, 1, 2, 3, 5, 6] (fun H locs ls hP hD hS hF hz => krunV C (q0 := 0) (ci := 5) (c_R_costs l D cI cL cZ H.size a_this a_gravel a_kind a_own a_likely a_tape a_holding a_rowLength a_rowOf a_refusals a_old a_ahead a_cost a_may a_rest a_way v1 c_n c_rain c_ear c_many c_seed c_taped c_from c_to c_token c_value c_imaged c_gravel c_kind c_own c_cost c_may x4 hx4) (cwV 1 C.2.2.2.2.1 (gV wq_675 wq_676 wq_677 wq_551 wq_674) rfl rfl rfl (by decide +kernel) ⟨(Nat.le_of_ble_eq_true rfl), (Nat.le_of_ble_eq_true rfl)⟩) rfl rfl kEnv_T rfl rfl (Nat.le_of_ble_eq_true rfl) dX5_loudest_25 hP hD hz) rfl (by decide) rfl rfl ?_
      refine k_aload_n C dX5_loudest_28 0 rfl rfl ?_
      refine k_iconst C (v := (-1 : Int32)) dX5_loudest_29 (by decide) ?_
      obtain ⟨x5, hx5, h⟩ := bindE h
      refine kcallU_i C (wc := (cells_R_sums cI cL cZ a_this a_gravel a_kind a_own a_likely a_tape a_holding a_rowLength a_rowOf a_refusals a_old a_ahead a_cost a_may a_rest a_way c_n c_rain c_ear c_many c_seed c_taped c_from c_to c_token c_value c_imaged x4.1 c_rest c_way)) (w1 := (cells_R_sums cI cL cZ a_this a_gravel a_kind a_own a_likely a_tape a_holding a_rowLength a_rowOf a_refusals a_old a_ahead a_cost a_may a_rest a_way c_n c_rain c_ear c_many c_seed c_taped c_from c_to c_token c_value c_imaged x4.1 x5.2.1 x5.2.2)) (ws' := (cells_R_loudest cI cL cZ a_this a_gravel a_kind a_own a_likely a_tape a_holding a_rowLength a_rowOf a_refusals a_old a_ahead a_cost a_may a_rest a_way c_n c_rain c_ear c_many c_seed c_taped c_from c_to c_token c_value c_imaged c_gravel c_kind c_own c_refusals x4.1 x4.2 x5.2.1 x5.2.2)) (r := x5.1) [0, 5, 7, 8] (fun H locs ls hP hD hS hF hz => krunV C (q0 := 0) (ci := 5) (c_R_sums l D cI cL cZ H.size a_this a_gravel a_kind a_own a_likely a_tape a_holding a_rowLength a_rowOf a_refusals a_old a_ahead a_cost a_may a_rest a_way (-1 : Int32) c_n c_rain c_ear c_many c_seed c_taped c_from c_to c_token c_value c_imaged x4.1 c_rest c_way x5 hx5) (cwV 1 C.2.2.2.2.1 (gV wq_679 wq_680 wq_681 wq_551 wq_678) rfl rfl rfl (by decide +kernel) ⟨(Nat.le_of_ble_eq_true rfl), (Nat.le_of_ble_eq_true rfl)⟩) rfl rfl kEnv_T rfl rfl (Nat.le_of_ble_eq_true rfl) dX5_loudest_30 hP hD hz) rfl (by decide) rfl rfl ?_
      refine k_istore_n C (lv' := [(3, .int x5.1), (0, .ref a_this), (1, .int v1), (2, .int v2)]) dX5_loudest_33 rfl (by decide) rfl ?_
      refine k_iload_n C dX5_loudest_34 3 rfl rfl ?_
      refine k_iconst C (v := (-1 : Int32)) dX5_loudest_35 (by decide) ?_
      refine k_icmp_ne C (tgt := 43) dX5_loudest_36 (by decide) (fun c_36 => ?_) (fun c_36 => ?_)
      · have h := ifF c_36 h
        refine k_aload_n C dX5_loudest_43 1 rfl rfl ?_
        refine k_get C (C0 := RX5) (T := TX5) (N := 26) (fun w h => List.mem_cons_of_mem _ (us_R w h)) 0 rfl rfl 25 (by decide) (List.mem_cons_of_mem _ wq_673) rfl rfl dX5_loudest_44 ?_
        refine k_iload_n C dX5_loudest_47 3 rfl rfl ?_
        obtain ⟨x6, hx6, h⟩ := bindE h
        refine k_iald C 8 0 rfl rfl hx6 dX5_loudest_48 ?_
        obtain rfl := Option.some.inj h
        exact kret_i C rfl dX5_loudest_49
      · have h := ifT c_36 h
        refine k_iload_n C dX5_loudest_39 0 rfl rfl ?_
        refine k_goto C (tgt := 49) dX5_loudest_40 (by decide) ?_
        obtain rfl := Option.some.inj h
        exact kret_i C rfl dX5_loudest_49
    · have h := ifT c_13 h
      refine k_lv (lv' := [(0, .ref a_this)]) [0] rfl ?_
      exact s_R_loudest_j16 C h
theorem c_R_loudest (l : Launch) (D : va_G) (cI : ClassId) (cL : ClassId) (cZ : ClassId) (sz : Nat) (a_this : Nat) (a_gravel : Nat) (a_kind : Nat) (a_own : Nat) (a_likely : Nat) (a_tape : Nat) (a_holding : Nat) (a_rowLength : Nat) (a_rowOf : Nat) (a_refusals : Nat) (a_old : Nat) (a_ahead : Nat) (a_cost : Nat) (a_may : Nat) (a_rest : Nat) (a_way : Nat) (v1 : Int32) (v2 : Int32) (c_n : Int32) (c_rain : Int32) (c_ear : Int32) (c_many : Int32) (c_seed : Int32) (c_taped : Int32) (c_from : Int32) (c_to : Int32) (c_token : Int32) (c_value : Int32) (c_imaged : Int32) (c_gravel : (Nat → Int32)) (c_kind : (Nat → Int32)) (c_own : (Nat → Int32)) (c_refusals : (Nat → Int32)) (c_cost : (Nat → Int32)) (c_may : (Nat → Int32)) (c_rest : (Nat → Int32)) (c_way : (Nat → Int32)) (x : (Int32 × (Nat → Int32) × (Nat → Int32) × (Nat → Int32) × (Nat → Int32) × (Nat → Int32))) (h : f_R_loudest v1 v2 c_n c_rain c_many c_gravel c_kind c_own c_refusals c_cost c_may c_rest c_way = some x) :
    Met l yX5_loudest (Cond.code yX5_loudest cX5_loudest 4 (some .int) :: WS) rm_R_loudest (kP D (tyG cI cL cZ) kTrue [.ref a_this, .int v1, .int v2] sz (cells_R_loudest cI cL cZ a_this a_gravel a_kind a_own a_likely a_tape a_holding a_rowLength a_rowOf a_refusals a_old a_ahead a_cost a_may a_rest a_way c_n c_rain c_ear c_many c_seed c_taped c_from c_to c_token c_value c_imaged c_gravel c_kind c_own c_refusals c_cost c_may c_rest c_way)) (kQi D (va_A (cells_R_loudest cI cL cZ a_this a_gravel a_kind a_own a_likely a_tape a_holding a_rowLength a_rowOf a_refusals a_old a_ahead a_cost a_may a_rest a_way c_n c_rain c_ear c_many c_seed c_taped c_from c_to c_token c_value c_imaged c_gravel c_kind c_own c_refusals c_cost c_may c_rest c_way) sz) (cells_R_loudest cI cL cZ a_this a_gravel a_kind a_own a_likely a_tape a_holding a_rowLength a_rowOf a_refusals a_old a_ahead a_cost a_may a_rest a_way c_n c_rain c_ear c_many c_seed c_taped c_from c_to c_token c_value c_imaged c_gravel c_kind c_own x.2.1 x.2.2.1 x.2.2.2.1 x.2.2.2.2.1 x.2.2.2.2.2) x.1) 0 0 (va_A (cells_R_loudest cI cL cZ a_this a_gravel a_kind a_own a_likely a_tape a_holding a_rowLength a_rowOf a_refusals a_old a_ahead a_cost a_may a_rest a_way c_n c_rain c_ear c_many c_seed c_taped c_from c_to c_token c_value c_imaged c_gravel c_kind c_own c_refusals c_cost c_may c_rest c_way) sz) :=
  kmet (by decide) (Nat.le_of_ble_eq_true rfl) rfl (fun p e s m below meth c C hE => s_R_loudest C h)
abbrev cells_R_upTo (cI : ClassId) (cL : ClassId) (cZ : ClassId) (a_this : Nat) (a_gravel : Nat) (a_kind : Nat) (a_own : Nat) (a_likely : Nat) (a_tape : Nat) (a_holding : Nat) (a_rowLength : Nat) (a_rowOf : Nat) (a_refusals : Nat) (a_old : Nat) (a_ahead : Nat) (a_cost : Nat) (a_may : Nat) (a_rest : Nat) (a_way : Nat) (c_n : Int32) (c_rain : Int32) (c_ear : Int32) (c_many : Int32) (c_seed : Int32) (c_taped : Int32) (c_from : Int32) (c_to : Int32) (c_token : Int32) (c_value : Int32) (c_imaged : Int32) (c_cost : (Nat → Int32)) (c_may : (Nat → Int32)) (c_rest : (Nat → Int32)) : va_W := [(a_this, .inr (5, [.int c_n, .ref a_gravel, .int c_rain, .int c_ear, .int c_many, .ref a_kind, .ref a_own, .ref a_likely, .int c_seed, .int c_taped, .ref a_tape, .int c_from, .int c_to, .int c_token, .int c_value, .ref a_holding, .ref a_rowLength, .ref a_rowOf, .ref a_refusals, .int c_imaged, .ref a_old, .ref a_ahead, .ref a_cost, .ref a_may, .ref a_rest, .ref a_way])), (a_cost, .inl (cI, 36, .inl c_cost)), (a_may, .inl (cZ, 36, .inl c_may)), (a_rest, .inl (cI, 36, .inl c_rest))]
abbrev rm_R_upTo : Room := { frames := 3, cells := 0, slots := 0, locals := 77 }
set_option maxRecDepth 100000 in
set_option maxHeartbeats 4000000 in
theorem s_R_upTo_j35 (C : kC p l e rm_R_upTo s m args below meth c D (tyG cI cL cZ) A 3 cX5_upTo yX5_upTo.cls (Cond.code yX5_upTo cX5_upTo 3 (some .int) :: WS) (some .int)) {a_this : Nat} {a_gravel : Nat} {a_kind : Nat} {a_own : Nat} {a_likely : Nat} {a_tape : Nat} {a_holding : Nat} {a_rowLength : Nat} {a_rowOf : Nat} {a_refusals : Nat} {a_old : Nat} {a_ahead : Nat} {a_cost : Nat} {a_may : Nat} {a_rest : Nat} {a_way : Nat} {v1 : Int32} {v2 : Int32} {t1 : Int32} {t2 : Int32} {c_n : Int32} {c_rain : Int32} {c_ear : Int32} {c_many : Int32} {c_seed : Int32} {c_taped : Int32} {c_from : Int32} {c_to : Int32} {c_token : Int32} {c_value : Int32} {c_imaged : Int32} {c_cost : (Nat → Int32)} {c_may : (Nat → Int32)} {c_rest : (Nat → Int32)} {x : ((Int32 × (Nat → Int32)) ⊕ (Nat → Int32))} (h : f_R_upTo_j35 v2 t1 t2 c_may = some x)
    (kc : ∀ s', x = .inl s' → kW p l e rm_R_upTo s m args below meth c D A 3 (cells_R_upTo cI cL cZ a_this a_gravel a_kind a_own a_likely a_tape a_holding a_rowLength a_rowOf a_refusals a_old a_ahead a_cost a_may a_rest a_way c_n c_rain c_ear c_many c_seed c_taped c_from c_to c_token c_value c_imaged c_cost s'.2 c_rest) [(0, .ref a_this), (1, .int v1), (2, .int s'.1)] Q 2 [])
    (k0 : ∀ r, x = .inr r → kW p l e rm_R_upTo s m args below meth c D A 3 (cells_R_upTo cI cL cZ a_this a_gravel a_kind a_own a_likely a_tape a_holding a_rowLength a_rowOf a_refusals a_old a_ahead a_cost a_may a_rest a_way c_n c_rain c_ear c_many c_seed c_taped c_from c_to c_token c_value c_imaged c_cost r c_rest) [(0, .ref a_this)] Q 42 []) :
    kW p l e rm_R_upTo s m args below meth c D A 3 (cells_R_upTo cI cL cZ a_this a_gravel a_kind a_own a_likely a_tape a_holding a_rowLength a_rowOf a_refusals a_old a_ahead a_cost a_may a_rest a_way c_n c_rain c_ear c_many c_seed c_taped c_from c_to c_token c_value c_imaged c_cost c_may c_rest) [(0, .ref a_this), (1, .int v1), (2, .int v2)] Q 35 [.int t2, .int t1, .ref a_may] := by
  unfold f_R_upTo_j35 at h
  obtain ⟨x2, hx2, h⟩ := bindE h
  refine k_zast C 2 2 (ws' := (cells_R_upTo cI cL cZ a_this a_gravel a_kind a_own a_likely a_tape a_holding a_rowLength a_rowOf a_refusals a_old a_ahead a_cost a_may a_rest a_way c_n c_rain c_ear c_many c_seed c_taped c_from c_to c_token c_value c_imaged c_cost x2 c_rest)) rfl rfl hx2 rfl dX5_upTo_35 ?_
  refine k_iinc C (v := (v2 + (1 : Int32))) (lv' := [(2, .int (v2 + (1 : Int32))), (0, .ref a_this), (1, .int v1)]) dX5_upTo_36 2 rfl rfl (by decide) rfl ?_
  refine k_goto C (tgt := 2) dX5_upTo_39 (by decide) ?_
  refine k_lv (lv' := [(0, .ref a_this), (1, .int v1), (2, .int (v2 + (1 : Int32)))]) [1, 2, 0] rfl ?_
  exact kc _ (Option.some.inj h).symm
set_option maxRecDepth 100000 in
set_option maxHeartbeats 4000000 in
theorem s_R_upTo_b2 (C : kC p l e rm_R_upTo s m args below meth c D (tyG cI cL cZ) A 3 cX5_upTo yX5_upTo.cls (Cond.code yX5_upTo cX5_upTo 3 (some .int) :: WS) (some .int)) {a_this : Nat} {a_gravel : Nat} {a_kind : Nat} {a_own : Nat} {a_likely : Nat} {a_tape : Nat} {a_holding : Nat} {a_rowLength : Nat} {a_rowOf : Nat} {a_refusals : Nat} {a_old : Nat} {a_ahead : Nat} {a_cost : Nat} {a_may : Nat} {a_rest : Nat} {a_way : Nat} {v1 : Int32} {v2 : Int32} {c_n : Int32} {c_rain : Int32} {c_ear : Int32} {c_many : Int32} {c_seed : Int32} {c_taped : Int32} {c_from : Int32} {c_to : Int32} {c_token : Int32} {c_value : Int32} {c_imaged : Int32} {c_cost : (Nat → Int32)} {c_may : (Nat → Int32)} {c_rest : (Nat → Int32)} {x : ((Int32 × (Nat → Int32)) ⊕ (Nat → Int32))} (h : f_R_upTo_b2 v1 c_n c_cost v2 c_may = some x)
    (kc : ∀ s', x = .inl s' → kW p l e rm_R_upTo s m args below meth c D A 3 (cells_R_upTo cI cL cZ a_this a_gravel a_kind a_own a_likely a_tape a_holding a_rowLength a_rowOf a_refusals a_old a_ahead a_cost a_may a_rest a_way c_n c_rain c_ear c_many c_seed c_taped c_from c_to c_token c_value c_imaged c_cost s'.2 c_rest) [(0, .ref a_this), (1, .int v1), (2, .int s'.1)] Q 2 [])
    (k0 : ∀ r, x = .inr r → kW p l e rm_R_upTo s m args below meth c D A 3 (cells_R_upTo cI cL cZ a_this a_gravel a_kind a_own a_likely a_tape a_holding a_rowLength a_rowOf a_refusals a_old a_ahead a_cost a_may a_rest a_way c_n c_rain c_ear c_many c_seed c_taped c_from c_to c_token c_value c_imaged c_cost r c_rest) [(0, .ref a_this)] Q 42 []) :
    kW p l e rm_R_upTo s m args below meth c D A 3 (cells_R_upTo cI cL cZ a_this a_gravel a_kind a_own a_likely a_tape a_holding a_rowLength a_rowOf a_refusals a_old a_ahead a_cost a_may a_rest a_way c_n c_rain c_ear c_many c_seed c_taped c_from c_to c_token c_value c_imaged c_cost c_may c_rest) [(0, .ref a_this), (1, .int v1), (2, .int v2)] Q 2 [] := by
  unfold f_R_upTo_b2 at h
  refine k_iload_n C dX5_upTo_2 2 rfl rfl ?_
  refine k_aload_n C dX5_upTo_3 0 rfl rfl ?_
  refine k_get C (C0 := RX5) (T := TX5) (N := 26) (fun w h => List.mem_cons_of_mem _ (us_R w h)) 0 rfl rfl 0 (by decide) (List.mem_cons_of_mem _ wq_552) rfl rfl dX5_upTo_4 ?_
  refine k_aload_n C dX5_upTo_7 0 rfl rfl ?_
  refine k_get C (C0 := RX5) (T := TX5) (N := 26) (fun w h => List.mem_cons_of_mem _ (us_R w h)) 0 rfl rfl 0 (by decide) (List.mem_cons_of_mem _ wq_552) rfl rfl dX5_upTo_8 ?_
  refine k_imul C dX5_upTo_11 ?_
  refine k_icmp_ge C (tgt := 42) dX5_upTo_12 (by decide) (fun c_12 => ?_) (fun c_12 => ?_)
  · have h := ifT c_12 h
    refine k_lv (lv' := [(0, .ref a_this)]) [0] rfl ?_
    exact k0 _ (Option.some.inj h).symm
  · have h := ifF c_12 h
    refine k_aload_n C dX5_upTo_15 0 rfl rfl ?_
    refine k_get C (C0 := RX5) (T := TX5) (N := 26) (fun w h => List.mem_cons_of_mem _ (us_R w h)) 0 rfl rfl 23 (by decide) (List.mem_cons_of_mem _ wq_657) rfl rfl dX5_upTo_16 ?_
    refine k_iload_n C dX5_upTo_19 2 rfl rfl ?_
    refine k_aload_n C dX5_upTo_20 0 rfl rfl ?_
    refine k_get C (C0 := RX5) (T := TX5) (N := 26) (fun w h => List.mem_cons_of_mem _ (us_R w h)) 0 rfl rfl 22 (by decide) (List.mem_cons_of_mem _ wq_652) rfl rfl dX5_upTo_21 ?_
    refine k_iload_n C dX5_upTo_24 2 rfl rfl ?_
    obtain ⟨x1, hx1, h⟩ := bindE h
    refine k_iald C 1 0 rfl rfl hx1 dX5_upTo_25 ?_
    refine k_iload_n C dX5_upTo_26 1 rfl rfl ?_
    refine k_icmp_gt C (tgt := 34) dX5_upTo_27 (by decide) (fun c_27 => ?_) (fun c_27 => ?_)
    · have h := ifT c_27 h
      refine k_iconst C (v := (0 : Int32)) dX5_upTo_34 (by decide) ?_
      exact s_R_upTo_j35 C h kc k0
    · have h := ifF c_27 h
      refine k_iconst C (v := (1 : Int32)) dX5_upTo_30 (by decide) ?_
      refine k_goto C (tgt := 35) dX5_upTo_31 (by decide) ?_
      exact s_R_upTo_j35 C h kc k0
set_option maxRecDepth 100000 in
set_option maxHeartbeats 4000000 in
theorem s_R_upTo_l2 (C : kC p l e rm_R_upTo s m args below meth c D (tyG cI cL cZ) A 3 cX5_upTo yX5_upTo.cls (Cond.code yX5_upTo cX5_upTo 3 (some .int) :: WS) (some .int)) {a_this : Nat} {a_gravel : Nat} {a_kind : Nat} {a_own : Nat} {a_likely : Nat} {a_tape : Nat} {a_holding : Nat} {a_rowLength : Nat} {a_rowOf : Nat} {a_refusals : Nat} {a_old : Nat} {a_ahead : Nat} {a_cost : Nat} {a_may : Nat} {a_rest : Nat} {a_way : Nat} {v1 : Int32} {v2 : Int32} {c_n : Int32} {c_rain : Int32} {c_ear : Int32} {c_many : Int32} {c_seed : Int32} {c_taped : Int32} {c_from : Int32} {c_to : Int32} {c_token : Int32} {c_value : Int32} {c_imaged : Int32} {c_cost : (Nat → Int32)} {c_may : (Nat → Int32)} {c_rest : (Nat → Int32)} {x : (Nat → Int32)} (h : f_R_upTo_l2 v1 c_n c_cost v2 c_may = some x)
    (k0 : kW p l e rm_R_upTo s m args below meth c D A 3 (cells_R_upTo cI cL cZ a_this a_gravel a_kind a_own a_likely a_tape a_holding a_rowLength a_rowOf a_refusals a_old a_ahead a_cost a_may a_rest a_way c_n c_rain c_ear c_many c_seed c_taped c_from c_to c_token c_value c_imaged c_cost x c_rest) [(0, .ref a_this)] Q 42 []) :
    kW p l e rm_R_upTo s m args below meth c D A 3 (cells_R_upTo cI cL cZ a_this a_gravel a_kind a_own a_likely a_tape a_holding a_rowLength a_rowOf a_refusals a_old a_ahead a_cost a_may a_rest a_way c_n c_rain c_ear c_many c_seed c_taped c_from c_to c_token c_value c_imaged c_cost c_may c_rest) [(0, .ref a_this), (1, .int v1), (2, .int v2)] Q 2 [] := by
  unfold f_R_upTo_l2 at h
  exact iter_W (body := fun s => f_R_upTo_b2 v1 c_n c_cost s.1 s.2) (r := x) (T := fun sg => kW p l e rm_R_upTo s m args below meth c D A 3 (cells_R_upTo cI cL cZ a_this a_gravel a_kind a_own a_likely a_tape a_holding a_rowLength a_rowOf a_refusals a_old a_ahead a_cost a_may a_rest a_way c_n c_rain c_ear c_many c_seed c_taped c_from c_to c_token c_value c_imaged c_cost sg.2 c_rest) [(0, .ref a_this), (1, .int v1), (2, .int sg.1)] Q 2 []) (fun sg y hy hc _ hr => s_R_upTo_b2 C (v1 := v1) (v2 := sg.1) (c_n := c_n) (c_rain := c_rain) (c_ear := c_ear) (c_many := c_many) (c_seed := c_seed) (c_taped := c_taped) (c_from := c_from) (c_to := c_to) (c_token := c_token) (c_value := c_value) (c_imaged := c_imaged) (c_cost := c_cost) (c_may := sg.2) (c_rest := c_rest) (x := y) hy hc (fun r e => by rw [hr r e]; exact k0)) FUEL (v2, c_may) h
set_option maxRecDepth 100000 in
set_option maxHeartbeats 4000000 in
theorem s_R_upTo (C : kC p l e rm_R_upTo s m args below meth c D (tyG cI cL cZ) A 3 cX5_upTo yX5_upTo.cls (Cond.code yX5_upTo cX5_upTo 3 (some .int) :: WS) (some .int)) {a_this : Nat} {a_gravel : Nat} {a_kind : Nat} {a_own : Nat} {a_likely : Nat} {a_tape : Nat} {a_holding : Nat} {a_rowLength : Nat} {a_rowOf : Nat} {a_refusals : Nat} {a_old : Nat} {a_ahead : Nat} {a_cost : Nat} {a_may : Nat} {a_rest : Nat} {a_way : Nat} {v1 : Int32} {c_n : Int32} {c_rain : Int32} {c_ear : Int32} {c_many : Int32} {c_seed : Int32} {c_taped : Int32} {c_from : Int32} {c_to : Int32} {c_token : Int32} {c_value : Int32} {c_imaged : Int32} {c_cost : (Nat → Int32)} {c_may : (Nat → Int32)} {c_rest : (Nat → Int32)} {x : (Int32 × (Nat → Int32) × (Nat → Int32))} (h : f_R_upTo v1 c_n c_cost c_may c_rest = some x) :
    kW p l e rm_R_upTo s m args below meth c D A 3 (cells_R_upTo cI cL cZ a_this a_gravel a_kind a_own a_likely a_tape a_holding a_rowLength a_rowOf a_refusals a_old a_ahead a_cost a_may a_rest a_way c_n c_rain c_ear c_many c_seed c_taped c_from c_to c_token c_value c_imaged c_cost c_may c_rest) [(0, .ref a_this), (1, .int v1)] (MQ below (kQi D A (cells_R_upTo cI cL cZ a_this a_gravel a_kind a_own a_likely a_tape a_holding a_rowLength a_rowOf a_refusals a_old a_ahead a_cost a_may a_rest a_way c_n c_rain c_ear c_many c_seed c_taped c_from c_to c_token c_value c_imaged c_cost x.2.1 x.2.2) x.1) args s 0 0 A) 0 [] := by
  unfold f_R_upTo at h
  refine k_iconst C (v := (0 : Int32)) dX5_upTo_0 (by decide) ?_
  refine k_istore_n C (lv' := [(2, .int (0 : Int32)), (0, .ref a_this), (1, .int v1)]) dX5_upTo_1 rfl (by decide) rfl ?_
  obtain ⟨x3, hx3, h⟩ := bindE h
  refine k_lv (lv' := [(0, .ref a_this), (1, .int v1), (2, .int (0 : Int32))]) [1, 2, 0] rfl ?_
  refine s_R_upTo_l2 C hx3 ?_
  refine k_aload_n C dX5_upTo_42 0 rfl rfl ?_
  obtain ⟨x4, hx4, h⟩ := bindE h
  refine kcallU_i C (wc := (cells_R_count cI cL cZ a_this a_gravel a_kind a_own a_likely a_tape a_holding a_rowLength a_rowOf a_refusals a_old a_ahead a_cost a_may a_rest a_way c_n c_rain c_ear c_many c_seed c_taped c_from c_to c_token c_value c_imaged x3 c_rest)) (w1 := (cells_R_count cI cL cZ a_this a_gravel a_kind a_own a_likely a_tape a_holding a_rowLength a_rowOf a_refusals a_old a_ahead a_cost a_may a_rest a_way c_n c_rain c_ear c_many c_seed c_taped c_from c_to c_token c_value c_imaged x3 x4.2)) (ws' := (cells_R_upTo cI cL cZ a_this a_gravel a_kind a_own a_likely a_tape a_holding a_rowLength a_rowOf a_refusals a_old a_ahead a_cost a_may a_rest a_way c_n c_rain c_ear c_many c_seed c_taped c_from c_to c_token c_value c_imaged c_cost x3 x4.2)) (r := x4.1) [0, 2, 3] (fun H locs ls hP hD hS hF hz => krunV C (q0 := 0) (ci := 5) (c_R_count l D cI cL cZ H.size a_this a_gravel a_kind a_own a_likely a_tape a_holding a_rowLength a_rowOf a_refusals a_old a_ahead a_cost a_may a_rest a_way c_n c_rain c_ear c_many c_seed c_taped c_from c_to c_token c_value c_imaged x3 c_rest x4 hx4) (cwV 0 C.2.2.2.2.1 (gV wq_670 wq_671 wq_672 wq_551 wq_669) rfl rfl rfl (by decide +kernel) ⟨(Nat.le_of_ble_eq_true rfl), (Nat.le_of_ble_eq_true rfl)⟩) rfl rfl kEnv_T rfl rfl (Nat.le_of_ble_eq_true rfl) dX5_upTo_43 hP hD hz) rfl (by decide) rfl rfl ?_
  obtain rfl := Option.some.inj h
  exact kret_i C rfl dX5_upTo_46

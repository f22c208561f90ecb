variable {p : Program} {l : Launch} {e : Env} {s : State} {m : MethodId} {args : Array Value} {below : List Frame} {meth : Method} {c : Code} {D : va_G} {A : Nat → Prop} {cI cL cZ : ClassId} {Q : State → Prop}
set_option maxRecDepth 100000 in
set_option maxHeartbeats 4000000 in
theorem s_R_as_j26 (C : kC p l e rm_R_as s m args below meth c D (tyG cI cL cZ) A 6 cX5_as yX5_as.cls (Cond.code yX5_as cX5_as 6 (some .int) :: WS) (some .int)) {a_this : Nat} {a_gravel : Nat} {a_kind : Nat} {a_own : Nat} {a_likely : Nat} {a_tape : Nat} {a_holding : Nat} {a_rowLength : Nat} {a_rowOf : Nat} {a_refusals : Nat} {a_old : Nat} {a_ahead : Nat} {a_cost : Nat} {a_may : Nat} {a_rest : Nat} {a_way : Nat} {c_n : Int32} {c_rain : Int32} {c_ear : Int32} {c_many : Int32} {c_seed : Int32} {c_taped : Int32} {c_from : Int32} {c_to : Int32} {c_token : Int32} {c_value : Int32} {c_imaged : Int32} {c_gravel : (Nat → Int32)} {c_kind : (Nat → Int32)} {c_own : (Nat → Int32)} {c_refusals : (Nat → Int32)} {c_may : (Nat → Int32)} {c_rest : (Nat → Int32)} {c_way : (Nat → Int32)} {x : (Int32 × (Nat → Int32) × (Nat → Int32) × (Nat → Int32) × (Nat → Int32))} (h : f_R_as_j26 c_refusals c_may c_rest c_way = some x) :
    kW p l e rm_R_as s m args below meth c D A 6 (cells_R_as cI cL cZ a_this a_gravel a_kind a_own a_likely a_tape a_holding a_rowLength a_rowOf a_refusals a_old a_ahead a_cost a_may a_rest a_way c_n c_rain c_ear c_many c_seed c_taped c_from c_to c_token c_value c_imaged c_gravel c_kind c_own c_refusals c_may c_rest c_way) [(0, .ref a_this)] (MQ below (kQi D A (cells_R_as cI cL cZ a_this a_gravel a_kind a_own a_likely a_tape a_holding a_rowLength a_rowOf a_refusals a_old a_ahead a_cost a_may a_rest a_way c_n c_rain c_ear c_many c_seed c_taped c_from c_to c_token c_value c_imaged c_gravel c_kind c_own x.2.1 x.2.2.1 x.2.2.2.1 x.2.2.2.2) x.1) args s 0 0 A) 26 [] := by
  unfold f_R_as_j26 at h
  refine k_aload_n C dX5_as_26 0 rfl rfl ?_
  refine k_bipush C (v := (-2 : Int32)) dX5_as_27 (by decide) ?_
  obtain ⟨x2, hx2, h⟩ := bindE h
  refine kcallU_i C (wc := (cells_R_no cI cL cZ a_this a_gravel a_kind a_own a_likely a_tape a_holding a_rowLength a_rowOf a_refusals a_old a_ahead a_cost a_may a_rest a_way c_n c_rain c_ear c_many c_seed c_taped c_from c_to c_token c_value c_imaged c_refusals)) (w1 := (cells_R_no cI cL cZ a_this a_gravel a_kind a_own a_likely a_tape a_holding a_rowLength a_rowOf a_refusals a_old a_ahead a_cost a_may a_rest a_way c_n c_rain c_ear c_many c_seed c_taped c_from c_to c_token c_value c_imaged x2.2)) (ws' := (cells_R_as cI cL cZ a_this a_gravel a_kind a_own a_likely a_tape a_holding a_rowLength a_rowOf a_refusals a_old a_ahead a_cost a_may a_rest a_way c_n c_rain c_ear c_many c_seed c_taped c_from c_to c_token c_value c_imaged c_gravel c_kind c_own x2.2 c_may c_rest c_way)) (r := x2.1) [0, 4] (fun H locs ls hP hD hS hF hz => krunV C (q0 := 0) (ci := 5) (c_R_no l D cI cL cZ H.size a_this a_gravel a_kind a_own a_likely a_tape a_holding a_rowLength a_rowOf a_refusals a_old a_ahead a_cost a_may a_rest a_way (-2 : Int32) c_n c_rain c_ear c_many c_seed c_taped c_from c_to c_token c_value c_imaged c_refusals x2 hx2) (cwV 1 C.2.2.2.2.1 (gV wq_558 wq_559 wq_560 wq_551 wq_557) rfl rfl rfl (by decide +kernel) ⟨(Nat.le_of_ble_eq_true rfl), (Nat.le_of_ble_eq_true rfl)⟩) rfl rfl kEnv_T rfl rfl (Nat.le_of_ble_eq_true rfl) dX5_as_29 hP hD hz) rfl (by decide) rfl rfl ?_
  obtain rfl := Option.some.inj h
  exact kret_i C rfl dX5_as_32
set_option maxRecDepth 100000 in
set_option maxHeartbeats 4000000 in
theorem s_R_as_j97 (C : kC p l e rm_R_as s m args below meth c D (tyG cI cL cZ) A 6 cX5_as yX5_as.cls (Cond.code yX5_as cX5_as 6 (some .int) :: WS) (some .int)) {a_this : Nat} {a_gravel : Nat} {a_kind : Nat} {a_own : Nat} {a_likely : Nat} {a_tape : Nat} {a_holding : Nat} {a_rowLength : Nat} {a_rowOf : Nat} {a_refusals : Nat} {a_old : Nat} {a_ahead : Nat} {a_cost : Nat} {a_may : Nat} {a_rest : Nat} {a_way : Nat} {v1 : Int32} {v2 : Int32} {v3 : Int32} {v4 : Int32} {v5 : Int32} {t1 : Int32} {t2 : Int32} {c_n : Int32} {c_rain : Int32} {c_ear : Int32} {c_many : Int32} {c_seed : Int32} {c_taped : Int32} {c_from : Int32} {c_to : Int32} {c_token : Int32} {c_value : Int32} {c_imaged : Int32} {c_gravel : (Nat → Int32)} {c_kind : (Nat → Int32)} {c_own : (Nat → Int32)} {c_refusals : (Nat → Int32)} {c_may : (Nat → Int32)} {c_rest : (Nat → Int32)} {c_way : (Nat → Int32)} {x : ((Int32 × (Nat → Int32)) ⊕ (Nat → Int32))} (h : f_R_as_j97 v5 t1 t2 c_may = some x)
    (kc : ∀ s', x = .inl s' → kW p l e rm_R_as s m args below meth c D A 6 (cells_R_as cI cL cZ a_this a_gravel a_kind a_own a_likely a_tape a_holding a_rowLength a_rowOf a_refusals a_old a_ahead a_cost a_may a_rest a_way c_n c_rain c_ear c_many c_seed c_taped c_from c_to c_token c_value c_imaged c_gravel c_kind c_own c_refusals s'.2 c_rest c_way) [(0, .ref a_this), (1, .int v1), (2, .int v2), (3, .int v3), (4, .int v4), (5, .int s'.1)] Q 36 [])
    (k0 : ∀ r, x = .inr r → kW p l e rm_R_as s m args below meth c D A 6 (cells_R_as cI cL cZ a_this a_gravel a_kind a_own a_likely a_tape a_holding a_rowLength a_rowOf a_refusals a_old a_ahead a_cost a_may a_rest a_way c_n c_rain c_ear c_many c_seed c_taped c_from c_to c_token c_value c_imaged c_gravel c_kind c_own c_refusals r c_rest c_way) [(0, .ref a_this), (4, .int v4)] Q 104 []) :
    kW p l e rm_R_as s m args below meth c D A 6 (cells_R_as cI cL cZ a_this a_gravel a_kind a_own a_likely a_tape a_holding a_rowLength a_rowOf a_refusals a_old a_ahead a_cost a_may a_rest a_way c_n c_rain c_ear c_many c_seed c_taped c_from c_to c_token c_value c_imaged c_gravel c_kind c_own c_refusals c_may c_rest c_way) [(0, .ref a_this), (1, .int v1), (2, .int v2), (3, .int v3), (4, .int v4), (5, .int v5)] Q 97 [.int t2, .int t1, .ref a_may] := by
  unfold f_R_as_j97 at h
  obtain ⟨x9, hx9, h⟩ := bindE h
  refine k_zast C 5 2 (ws' := (cells_R_as cI cL cZ a_this a_gravel a_kind a_own a_likely a_tape a_holding a_rowLength a_rowOf a_refusals a_old a_ahead a_cost a_may a_rest a_way c_n c_rain c_ear c_many c_seed c_taped c_from c_to c_token c_value c_imaged c_gravel c_kind c_own c_refusals x9 c_rest c_way)) rfl rfl hx9 rfl dX5_as_97 ?_
  refine k_iinc C (v := (v5 + (1 : Int32))) (lv' := [(5, .int (v5 + (1 : Int32))), (0, .ref a_this), (1, .int v1), (2, .int v2), (3, .int v3), (4, .int v4)]) dX5_as_98 5 rfl rfl (by decide) rfl ?_
  refine k_goto C (tgt := 36) dX5_as_101 (by decide) ?_
  refine k_lv (lv' := [(0, .ref a_this), (1, .int v1), (2, .int v2), (3, .int v3), (4, .int v4), (5, .int (v5 + (1 : Int32)))]) [1, 2, 3, 4, 5, 0] rfl ?_
  exact kc _ (Option.some.inj h).symm
set_option maxRecDepth 100000 in
set_option maxHeartbeats 4000000 in
theorem s_R_as_b36 (C : kC p l e rm_R_as s m args below meth c D (tyG cI cL cZ) A 6 cX5_as yX5_as.cls (Cond.code yX5_as cX5_as 6 (some .int) :: WS) (some .int)) {a_this : Nat} {a_gravel : Nat} {a_kind : Nat} {a_own : Nat} {a_likely : Nat} {a_tape : Nat} {a_holding : Nat} {a_rowLength : Nat} {a_rowOf : Nat} {a_refusals : Nat} {a_old : Nat} {a_ahead : Nat} {a_cost : Nat} {a_may : Nat} {a_rest : Nat} {a_way : Nat} {v1 : Int32} {v2 : Int32} {v3 : Int32} {v4 : Int32} {v5 : Int32} {c_n : Int32} {c_rain : Int32} {c_ear : Int32} {c_many : Int32} {c_seed : Int32} {c_taped : Int32} {c_from : Int32} {c_to : Int32} {c_token : Int32} {c_value : Int32} {c_imaged : Int32} {c_gravel : (Nat → Int32)} {c_kind : (Nat → Int32)} {c_own : (Nat → Int32)} {c_refusals : (Nat → Int32)} {c_may : (Nat → Int32)} {c_rest : (Nat → Int32)} {c_way : (Nat → Int32)} {x : ((Int32 × (Nat → Int32)) ⊕ (Nat → Int32))} (h : f_R_as_b36 v1 v2 v3 c_n c_rain c_gravel c_kind c_own v5 c_may = some x)
    (kc : ∀ s', x = .inl s' → kW p l e rm_R_as s m args below meth c D A 6 (cells_R_as cI cL cZ a_this a_gravel a_kind a_own a_likely a_tape a_holding a_rowLength a_rowOf a_refusals a_old a_ahead a_cost a_may a_rest a_way c_n c_rain c_ear c_many c_seed c_taped c_from c_to c_token c_value c_imaged c_gravel c_kind c_own c_refusals s'.2 c_rest c_way) [(0, .ref a_this), (1, .int v1), (2, .int v2), (3, .int v3), (4, .int v4), (5, .int s'.1)] Q 36 [])
    (k0 : ∀ r, x = .inr r → kW p l e rm_R_as s m args below meth c D A 6 (cells_R_as cI cL cZ a_this a_gravel a_kind a_own a_likely a_tape a_holding a_rowLength a_rowOf a_refusals a_old a_ahead a_cost a_may a_rest a_way c_n c_rain c_ear c_many c_seed c_taped c_from c_to c_token c_value c_imaged c_gravel c_kind c_own c_refusals r c_rest c_way) [(0, .ref a_this), (4, .int v4)] Q 104 []) :
    kW p l e rm_R_as s m args below meth c D A 6 (cells_R_as cI cL cZ a_this a_gravel a_kind a_own a_likely a_tape a_holding a_rowLength a_rowOf a_refusals a_old a_ahead a_cost a_may a_rest a_way c_n c_rain c_ear c_many c_seed c_taped c_from c_to c_token c_value c_imaged c_gravel c_kind c_own c_refusals c_may c_rest c_way) [(0, .ref a_this), (1, .int v1), (2, .int v2), (3, .int v3), (4, .int v4), (5, .int v5)] Q 36 [] := by
  unfold f_R_as_b36 at h
  refine k_iload C dX5_as_36 5 rfl ?_
  refine k_aload_n C dX5_as_38 0 rfl rfl ?_
  refine k_get C (C0 := RX5) (T := TX5) (N := 26) (fun w h => List.mem_cons_of_mem _ (us_R w h)) 0 rfl rfl 0 (by decide) (List.mem_cons_of_mem _ wq_552) rfl rfl dX5_as_39 ?_
  refine k_aload_n C dX5_as_42 0 rfl rfl ?_
  refine k_get C (C0 := RX5) (T := TX5) (N := 26) (fun w h => List.mem_cons_of_mem _ (us_R w h)) 0 rfl rfl 0 (by decide) (List.mem_cons_of_mem _ wq_552) rfl rfl dX5_as_43 ?_
  refine k_imul C dX5_as_46 ?_
  refine k_icmp_ge C (tgt := 104) dX5_as_47 (by decide) (fun c_47 => ?_) (fun c_47 => ?_)
  · have h := ifT c_47 h
    refine k_lv (lv' := [(0, .ref a_this), (4, .int v4)]) [0, 4] rfl ?_
    exact k0 _ (Option.some.inj h).symm
  · have h := ifF c_47 h
    refine k_aload_n C dX5_as_50 0 rfl rfl ?_
    refine k_get C (C0 := RX5) (T := TX5) (N := 26) (fun w h => List.mem_cons_of_mem _ (us_R w h)) 0 rfl rfl 23 (by decide) (List.mem_cons_of_mem _ wq_657) rfl rfl dX5_as_51 ?_
    refine k_iload C dX5_as_54 5 rfl ?_
    refine k_aload_n C dX5_as_56 0 rfl rfl ?_
    refine k_iload_n C dX5_as_57 1 rfl rfl ?_
    refine k_iload C dX5_as_58 5 rfl ?_
    obtain ⟨x5, hx5, h⟩ := bindE h
    refine kcallR_i C (wc := (cells_R_stepOn cI cL cZ a_this a_gravel a_kind a_own a_likely a_tape a_holding a_rowLength a_rowOf a_refusals a_old a_ahead a_cost a_may a_rest a_way c_n c_rain c_ear c_many c_seed c_taped c_from c_to c_token c_value c_imaged c_gravel c_kind c_own)) (r := x5) [0, 1, 2, 3] (fun H locs ls hP hD hS hF hz => krunV C (q0 := 0) (ci := 5) (c_R_stepOn l D cI cL cZ H.size a_this a_gravel a_kind a_own a_likely a_tape a_holding a_rowLength a_rowOf a_refusals a_old a_ahead a_cost a_may a_rest a_way v1 v5 c_n c_rain c_ear c_many c_seed c_taped c_from c_to c_token c_value c_imaged c_gravel c_kind c_own x5 hx5) (cwV 2 C.2.2.2.2.1 (gV wq_654 wq_655 wq_656 wq_551 wq_653) rfl rfl rfl (by decide +kernel) ⟨(Nat.le_of_ble_eq_true rfl), (Nat.le_of_ble_eq_true rfl)⟩) rfl rfl kEnv_T rfl rfl (Nat.le_of_ble_eq_true rfl) dX5_as_60 hP hD hz) rfl (by decide) ?_
    refine k_aload_n C dX5_as_63 0 rfl rfl ?_
    refine k_iload_n C dX5_as_64 2 rfl rfl ?_
    refine k_iload C dX5_as_65 5 rfl ?_
    refine k_aload_n C dX5_as_67 0 rfl rfl ?_
    refine k_get C (C0 := RX5) (T := TX5) (N := 26) (fun w h => List.mem_cons_of_mem _ (us_R w h)) 0 rfl rfl 0 (by decide) (List.mem_cons_of_mem _ wq_552) rfl rfl dX5_as_68 ?_
    obtain ⟨x6, hx6, h⟩ := bindE h
    refine k_idiv C dX5_as_71 hx6 ?_
    refine k_aload_n C dX5_as_72 0 rfl rfl ?_
    refine k_get C (C0 := RX5) (T := TX5) (N := 26) (fun w h => List.mem_cons_of_mem _ (us_R w h)) 0 rfl rfl 0 (by decide) (List.mem_cons_of_mem _ wq_552) rfl rfl dX5_as_73 ?_
    refine k_imul C dX5_as_76 ?_
    refine k_iload_n C dX5_as_77 3 rfl rfl ?_
    refine k_iadd C dX5_as_78 ?_
    refine k_iload C dX5_as_79 5 rfl ?_
    refine k_aload_n C dX5_as_81 0 rfl rfl ?_
    refine k_get C (C0 := RX5) (T := TX5) (N := 26) (fun w h => List.mem_cons_of_mem _ (us_R w h)) 0 rfl rfl 0 (by decide) (List.mem_cons_of_mem _ wq_552) rfl rfl dX5_as_82 ?_
    obtain ⟨x7, hx7, h⟩ := bindE h
    refine k_idiv C dX5_as_85 hx7 ?_
    obtain ⟨x8, hx8, h⟩ := bindE h
    refine kcallR_i C (wc := (cells_R_crunches cI cL cZ a_this a_gravel a_kind a_own a_likely a_tape a_holding a_rowLength a_rowOf a_refusals a_old a_ahead a_cost a_may a_rest a_way c_n c_rain c_ear c_many c_seed c_taped c_from c_to c_token c_value c_imaged c_gravel c_kind c_own)) (r := x8) [0, 1, 2, 3] (fun H locs ls hP hD hS hF hz => krunV C (q0 := 0) (ci := 5) (c_R_crunches l D cI cL cZ H.size a_this a_gravel a_kind a_own a_likely a_tape a_holding a_rowLength a_rowOf a_refusals a_old a_ahead a_cost a_may a_rest a_way v2 ((x6 * c_n) + v3) x7 c_n c_rain c_ear c_many c_seed c_taped c_from c_to c_token c_value c_imaged c_gravel c_kind c_own x8 hx8) (cwV 3 C.2.2.2.2.1 (gV wq_591 wq_592 wq_593 wq_551 wq_590) rfl rfl rfl (by decide +kernel) ⟨(Nat.le_of_ble_eq_true rfl), (Nat.le_of_ble_eq_true rfl)⟩) rfl rfl kEnv_T rfl rfl (Nat.le_of_ble_eq_true rfl) dX5_as_86 hP hD hz) rfl (by decide) ?_
    refine k_icmp_ne C (tgt := 96) dX5_as_89 (by decide) (fun c_89 => ?_) (fun c_89 => ?_)
    · have h := ifF c_89 h
      refine k_iconst C (v := (0 : Int32)) dX5_as_96 (by decide) ?_
      exact s_R_as_j97 C h kc k0
    · have h := ifT c_89 h
      refine k_iconst C (v := (1 : Int32)) dX5_as_92 (by decide) ?_
      refine k_goto C (tgt := 97) dX5_as_93 (by decide) ?_
      exact s_R_as_j97 C h kc k0
set_option maxRecDepth 100000 in
set_option maxHeartbeats 4000000 in
theorem s_R_as_l36 (C : kC p l e rm_R_as s m args below meth c D (tyG cI cL cZ) A 6 cX5_as yX5_as.cls (Cond.code yX5_as cX5_as 6 (some .int) :: WS) (some .int)) {a_this : Nat} {a_gravel : Nat} {a_kind : Nat} {a_own : Nat} {a_likely : Nat} {a_tape : Nat} {a_holding : Nat} {a_rowLength : Nat} {a_rowOf : Nat} {a_refusals : Nat} {a_old : Nat} {a_ahead : Nat} {a_cost : Nat} {a_may : Nat} {a_rest : Nat} {a_way : Nat} {v1 : Int32} {v2 : Int32} {v3 : Int32} {v4 : Int32} {v5 : Int32} {c_n : Int32} {c_rain : Int32} {c_ear : Int32} {c_many : Int32} {c_seed : Int32} {c_taped : Int32} {c_from : Int32} {c_to : Int32} {c_token : Int32} {c_value : Int32} {c_imaged : Int32} {c_gravel : (Nat → Int32)} {c_kind : (Nat → Int32)} {c_own : (Nat → Int32)} {c_refusals : (Nat → Int32)} {c_may : (Nat → Int32)} {c_rest : (Nat → Int32)} {c_way : (Nat → Int32)} {x : (Nat → Int32)} (h : f_R_as_l36 v1 v2 v3 c_n c_rain c_gravel c_kind c_own v5 c_may = some x)
    (k0 : kW p l e rm_R_as s m args below meth c D A 6 (cells_R_as cI cL cZ a_this a_gravel a_kind a_own a_likely a_tape a_holding a_rowLength a_rowOf a_refusals a_old a_ahead a_cost a_may a_rest a_way c_n c_rain c_ear c_many c_seed c_taped c_from c_to c_token c_value c_imaged c_gravel c_kind c_own c_refusals x c_rest c_way) [(0, .ref a_this), (4, .int v4)] Q 104 []) :
    kW p l e rm_R_as s m args below meth c D A 6 (cells_R_as cI cL cZ a_this a_gravel a_kind a_own a_likely a_tape a_holding a_rowLength a_rowOf a_refusals a_old a_ahead a_cost a_may a_rest a_way c_n c_rain c_ear c_many c_seed c_taped c_from c_to c_token c_value c_imaged c_gravel c_kind c_own c_refusals c_may c_rest c_way) [(0, .ref a_this), (1, .int v1), (2, .int v2), (3, .int v3), (4, .int v4), (5, .int v5)] Q 36 [] := by
  unfold f_R_as_l36 at h
  exact iter_W (body := fun s => f_R_as_b36 v1 v2 v3 c_n c_rain c_gravel c_kind c_own s.1 s.2) (r := x) (T := fun sg => kW p l e rm_R_as s m args below meth c D A 6 (cells_R_as cI cL cZ a_this a_gravel a_kind a_own a_likely a_tape a_holding a_rowLength a_rowOf a_refusals a_old a_ahead a_cost a_may a_rest a_way c_n c_rain c_ear c_many c_seed c_taped c_from c_to c_token c_value c_imaged c_gravel c_kind c_own c_refusals sg.2 c_rest c_way) [(0, .ref a_this), (1, .int v1), (2, .int v2), (3, .int v3), (4, .int v4), (5, .int sg.1)] Q 36 []) (fun sg y hy hc _ hr => s_R_as_b36 C (v1 := v1) (v2 := v2) (v3 := v3) (v4 := v4) (v5 := sg.1) (c_n := c_n) (c_rain := c_rain) (c_ear := c_ear) (c_many := c_many) (c_seed := c_seed) (c_taped := c_taped) (c_from := c_from) (c_to := c_to) (c_token := c_token) (c_value := c_value) (c_imaged := c_imaged) (c_gravel := c_gravel) (c_kind := c_kind) (c_own := c_own) (c_refusals := c_refusals) (c_may := sg.2) (c_rest := c_rest) (c_way := c_way) (x := y) hy hc (fun r e => by rw [hr r e]; exact k0)) FUEL (v5, c_may) h
set_option maxRecDepth 100000 in
set_option maxHeartbeats 4000000 in
theorem s_R_as (C : kC p l e rm_R_as s m args below meth c D (tyG cI cL cZ) A 6 cX5_as yX5_as.cls (Cond.code yX5_as cX5_as 6 (some .int) :: WS) (some .int)) {a_this : Nat} {a_gravel : Nat} {a_kind : Nat} {a_own : Nat} {a_likely : Nat} {a_tape : Nat} {a_holding : Nat} {a_rowLength : Nat} {a_rowOf : Nat} {a_refusals : Nat} {a_old : Nat} {a_ahead : Nat} {a_cost : Nat} {a_may : Nat} {a_rest : Nat} {a_way : Nat} {v1 : Int32} {v2 : Int32} {v3 : Int32} {v4 : Int32} {c_n : Int32} {c_rain : Int32} {c_ear : Int32} {c_many : Int32} {c_seed : Int32} {c_taped : Int32} {c_from : Int32} {c_to : Int32} {c_token : Int32} {c_value : Int32} {c_imaged : Int32} {c_gravel : (Nat → Int32)} {c_kind : (Nat → Int32)} {c_own : (Nat → Int32)} {c_refusals : (Nat → Int32)} {c_may : (Nat → Int32)} {c_rest : (Nat → Int32)} {c_way : (Nat → Int32)} {x : (Int32 × (Nat → Int32) × (Nat → Int32) × (Nat → Int32) × (Nat → Int32))} (h : f_R_as v1 v2 v3 v4 c_n c_rain c_many c_gravel c_kind c_own c_refusals c_may c_rest c_way = some x) :
    kW p l e rm_R_as s m args below meth c D A 6 (cells_R_as cI cL cZ a_this a_gravel a_kind a_own a_likely a_tape a_holding a_rowLength a_rowOf a_refusals a_old a_ahead a_cost a_may a_rest a_way c_n c_rain c_ear c_many c_seed c_taped c_from c_to c_token c_value c_imaged c_gravel c_kind c_own c_refusals c_may c_rest c_way) [(0, .ref a_this), (1, .int v1), (2, .int v2), (3, .int v3), (4, .int v4)] (MQ below (kQi D A (cells_R_as cI cL cZ a_this a_gravel a_kind a_own a_likely a_tape a_holding a_rowLength a_rowOf a_refusals a_old a_ahead a_cost a_may a_rest a_way c_n c_rain c_ear c_many c_seed c_taped c_from c_to c_token c_value c_imaged c_gravel c_kind c_own x.2.1 x.2.2.1 x.2.2.2.1 x.2.2.2.2) x.1) args s 0 0 A) 0 [] := by
  unfold f_R_as at h
  refine k_aload_n C dX5_as_0 0 rfl rfl ?_
  refine k_iload_n C dX5_as_1 1 rfl rfl ?_
  refine k_iload_n C dX5_as_2 2 rfl rfl ?_
  obtain ⟨x1, hx1, h⟩ := bindE h
  refine kcallR_i C (wc := (cells_R_areTwo cI cL cZ a_this a_gravel a_kind a_own a_likely a_tape a_holding a_rowLength a_rowOf a_refusals a_old a_ahead a_cost a_may a_rest a_way c_n c_rain c_ear c_many c_seed c_taped c_from c_to c_token c_value c_imaged)) (r := x1) [0] (fun H locs ls hP hD hS hF hz => krunV C (q0 := 0) (ci := 5) (c_R_areTwo l D cI cL cZ H.size a_this a_gravel a_kind a_own a_likely a_tape a_holding a_rowLength a_rowOf a_refusals a_old a_ahead a_cost a_may a_rest a_way v1 v2 c_n c_rain c_ear c_many c_seed c_taped c_from c_to c_token c_value c_imaged x1 hx1) (cwV 2 C.2.2.2.2.1 (gV wq_724 wq_725 wq_726 wq_551 wq_723) rfl rfl rfl (by decide +kernel) ⟨(Nat.le_of_ble_eq_true rfl), (Nat.le_of_ble_eq_true rfl)⟩) rfl rfl kEnv_T rfl rfl (Nat.le_of_ble_eq_true rfl) dX5_as_3 hP hD hz) rfl (by decide) ?_
  refine k_if_eq C (tgt := 26) dX5_as_6 (by decide) (fun c_6 => ?_) (fun c_6 => ?_)
  · have h := ifT c_6 h
    refine k_lv (lv' := [(0, .ref a_this)]) [0] rfl ?_
    exact s_R_as_j26 C h
  · have h := ifF c_6 h
    refine k_aload_n C dX5_as_9 0 rfl rfl ?_
    refine k_iload_n C dX5_as_10 3 rfl rfl ?_
    obtain ⟨x3, hx3, h⟩ := bindE h
    refine kcallR_i C (wc := (cells_R_isColumn cI cL cZ a_this a_gravel a_kind a_own a_likely a_tape a_holding a_rowLength a_rowOf a_refusals a_old a_ahead a_cost a_may a_rest a_way c_n c_rain c_ear c_many c_seed c_taped c_from c_to c_token c_value c_imaged)) (r := x3) [0] (fun H locs ls hP hD hS hF hz => krunV C (q0 := 0) (ci := 5) (c_R_isColumn l D cI cL cZ H.size a_this a_gravel a_kind a_own a_likely a_tape a_holding a_rowLength a_rowOf a_refusals a_old a_ahead a_cost a_may a_rest a_way v3 c_n c_rain c_ear c_many c_seed c_taped c_from c_to c_token c_value c_imaged x3 hx3) (cwV 1 C.2.2.2.2.1 (gV wq_728 wq_729 wq_730 wq_551 wq_727) rfl rfl rfl (by decide +kernel) ⟨(Nat.le_of_ble_eq_true rfl), (Nat.le_of_ble_eq_true rfl)⟩) rfl rfl kEnv_T rfl rfl (Nat.le_of_ble_eq_true rfl) dX5_as_11 hP hD hz) rfl (by decide) ?_
    refine k_if_eq C (tgt := 26) dX5_as_14 (by decide) (fun c_14 => ?_) (fun c_14 => ?_)
    · have h := ifT c_14 h
      refine k_lv (lv' := [(0, .ref a_this)]) [0] rfl ?_
      exact s_R_as_j26 C h
    · have h := ifF c_14 h
      refine k_aload_n C dX5_as_17 0 rfl rfl ?_
      refine k_iload C dX5_as_18 4 rfl ?_
      obtain ⟨x4, hx4, h⟩ := bindE h
      refine kcallR_i C (wc := (cells_R_isPlace cI cL cZ a_this a_gravel a_kind a_own a_likely a_tape a_holding a_rowLength a_rowOf a_refusals a_old a_ahead a_cost a_may a_rest a_way c_n c_rain c_ear c_many c_seed c_taped c_from c_to c_token c_value c_imaged)) (r := x4) [0] (fun H locs ls hP hD hS hF hz => krunV C (q0 := 0) (ci := 5) (c_R_isPlace l D cI cL cZ H.size a_this a_gravel a_kind a_own a_likely a_tape a_holding a_rowLength a_rowOf a_refusals a_old a_ahead a_cost a_may a_rest a_way v4 c_n c_rain c_ear c_many c_seed c_taped c_from c_to c_token c_value c_imaged x4 hx4) (cwV 1 C.2.2.2.2.1 (gV wq_683 wq_684 wq_685 wq_551 wq_682) rfl rfl rfl (by decide +kernel) ⟨(Nat.le_of_ble_eq_true rfl), (Nat.le_of_ble_eq_true rfl)⟩) rfl rfl kEnv_T rfl rfl (Nat.le_of_ble_eq_true rfl) dX5_as_20 hP hD hz) rfl (by decide) ?_
      refine k_if_ne C (tgt := 33) dX5_as_23 (by decide) (fun c_23 => ?_) (fun c_23 => ?_)
      · have h := ifF c_23 h
        refine k_iconst C (v := (0 : Int32)) dX5_as_33 (by decide) ?_
        refine k_istore C (lv' := [(5, .int (0 : Int32)), (0, .ref a_this), (1, .int v1), (2, .int v2), (3, .int v3), (4, .int v4)]) dX5_as_34 (by decide) rfl ?_
        obtain ⟨x10, hx10, h⟩ := bindE h
        refine k_lv (lv' := [(0, .ref a_this), (1, .int v1), (2, .int v2), (3, .int v3), (4, .int v4), (5, .int (0 : Int32))]) [1, 2, 3, 4, 5, 0] rfl ?_
        refine s_R_as_l36 C hx10 ?_
        refine k_aload_n C dX5_as_104 0 rfl rfl ?_
        obtain ⟨x11, hx11, h⟩ := bindE h
        refine kcallU_i C (wc := (cells_R_count cI cL cZ a_this a_gravel a_kind a_own a_likely a_tape a_holding a_rowLength a_rowOf a_refusals a_old a_ahead a_cost a_may a_rest a_way c_n c_rain c_ear c_many c_seed c_taped c_from c_to c_token c_value c_imaged x10 c_rest)) (w1 := (cells_R_count cI cL cZ a_this a_gravel a_kind a_own a_likely a_tape a_holding a_rowLength a_rowOf a_refusals a_old a_ahead a_cost a_may a_rest a_way c_n c_rain c_ear c_many c_seed c_taped c_from c_to c_token c_value c_imaged x10 x11.2)) (ws' := (cells_R_as cI cL cZ a_this a_gravel a_kind a_own a_likely a_tape a_holding a_rowLength a_rowOf a_refusals a_old a_ahead a_cost a_may a_rest a_way c_n c_rain c_ear c_many c_seed c_taped c_from c_to c_token c_value c_imaged c_gravel c_kind c_own c_refusals x10 x11.2 c_way)) (r := x11.1) [0, 5, 6] (fun H locs ls hP hD hS hF hz => krunV C (q0 := 0) (ci := 5) (c_R_count l D cI cL cZ H.size a_this a_gravel a_kind a_own a_likely a_tape a_holding a_rowLength a_rowOf a_refusals a_old a_ahead a_cost a_may a_rest a_way c_n c_rain c_ear c_many c_seed c_taped c_from c_to c_token c_value c_imaged x10 c_rest x11 hx11) (cwV 0 C.2.2.2.2.1 (gV wq_670 wq_671 wq_672 wq_551 wq_669) rfl rfl rfl (by decide +kernel) ⟨(Nat.le_of_ble_eq_true rfl), (Nat.le_of_ble_eq_true rfl)⟩) rfl rfl kEnv_T rfl rfl (Nat.le_of_ble_eq_true rfl) dX5_as_105 hP hD hz) rfl (by decide) rfl rfl ?_
        refine k_istore C (lv' := [(5, .int x11.1), (0, .ref a_this), (4, .int v4)]) dX5_as_108 (by decide) rfl ?_
        refine k_iload C dX5_as_110 2 rfl ?_
        refine k_iconst C (v := (-1 : Int32)) dX5_as_112 (by decide) ?_
        refine k_icmp_ne C (tgt := 119) dX5_as_113 (by decide) (fun c_113 => ?_) (fun c_113 => ?_)
        · have h := ifF c_113 h
          refine k_iload C dX5_as_119 0 rfl ?_
          refine k_if_ne C (tgt := 131) dX5_as_121 (by decide) (fun c_121 => ?_) (fun c_121 => ?_)
          · have h := ifF c_121 h
            refine k_aload_n C dX5_as_131 1 rfl rfl ?_
            obtain ⟨x12, hx12, h⟩ := bindE h
            refine kcallU_v C (wc := (cells_R_first cI cL cZ a_this a_gravel a_kind a_own a_likely a_tape a_holding a_rowLength a_rowOf a_refusals a_old a_ahead a_cost a_may a_rest a_way c_n c_rain c_ear c_many c_seed c_taped c_from c_to c_token c_value c_imaged x10 x11.2 c_way)) (w1 := (cells_R_first cI cL cZ a_this a_gravel a_kind a_own a_likely a_tape a_holding a_rowLength a_rowOf a_refusals a_old a_ahead a_cost a_may a_rest a_way c_n c_rain c_ear c_many c_seed c_taped c_from c_to c_token c_value c_imaged x10 x12.1 x12.2)) (ws' := (cells_R_as cI cL cZ a_this a_gravel a_kind a_own a_likely a_tape a_holding a_rowLength a_rowOf a_refusals a_old a_ahead a_cost a_may a_rest a_way c_n c_rain c_ear c_many c_seed c_taped c_from c_to c_token c_value c_imaged c_gravel c_kind c_own c_refusals x10 x12.1 x12.2)) [0, 5, 6, 7] (fun H locs ls hP hD hS hF hz => krunV C (q0 := 0) (ci := 5) (c_R_first l D cI cL cZ H.size a_this a_gravel a_kind a_own a_likely a_tape a_holding a_rowLength a_rowOf a_refusals a_old a_ahead a_cost a_may a_rest a_way c_n c_rain c_ear c_many c_seed c_taped c_from c_to c_token c_value c_imaged x10 x11.2 c_way x12 hx12) (cwV 0 C.2.2.2.2.1 (gV wq_695 wq_696 wq_697 wq_551 wq_694) rfl rfl rfl (by decide +kernel) ⟨(Nat.le_of_ble_eq_true rfl), (Nat.le_of_ble_eq_true rfl)⟩) rfl rfl kEnv_T rfl rfl (Nat.le_of_ble_eq_true rfl) dX5_as_132 hP hD hz) rfl (by decide) rfl rfl ?_
            refine k_aload_n C dX5_as_135 1 rfl rfl ?_
            refine k_get C (C0 := RX5) (T := TX5) (N := 26) (fun w h => List.mem_cons_of_mem _ (us_R w h)) 0 rfl rfl 25 (by decide) (List.mem_cons_of_mem _ wq_673) rfl rfl dX5_as_136 ?_
            refine k_iload C dX5_as_139 2 rfl ?_
            obtain ⟨x13, hx13, h⟩ := bindE h
            refine k_iald C 7 0 rfl rfl hx13 dX5_as_141 ?_
            obtain rfl := Option.some.inj h
            exact kret_i C rfl dX5_as_142
          · have h := ifT c_121 h
            refine k_aload_n C dX5_as_124 1 rfl rfl ?_
            refine k_bipush C (v := (-5 : Int32)) dX5_as_125 (by decide) ?_
            obtain ⟨x14, hx14, h⟩ := bindE h
            refine kcallU_i C (wc := (cells_R_no cI cL cZ a_this a_gravel a_kind a_own a_likely a_tape a_holding a_rowLength a_rowOf a_refusals a_old a_ahead a_cost a_may a_rest a_way c_n c_rain c_ear c_many c_seed c_taped c_from c_to c_token c_value c_imaged c_refusals)) (w1 := (cells_R_no cI cL cZ a_this a_gravel a_kind a_own a_likely a_tape a_holding a_rowLength a_rowOf a_refusals a_old a_ahead a_cost a_may a_rest a_way c_n c_rain c_ear c_many c_seed c_taped c_from c_to c_token c_value c_imaged x14.2)) (ws' := (cells_R_as cI cL cZ a_this a_gravel a_kind a_own a_likely a_tape a_holding a_rowLength a_rowOf a_refusals a_old a_ahead a_cost a_may a_rest a_way c_n c_rain c_ear c_many c_seed c_taped c_from c_to c_token c_value c_imaged c_gravel c_kind c_own x14.2 x10 x11.2 c_way)) (r := x14.1) [0, 4] (fun H locs ls hP hD hS hF hz => krunV C (q0 := 0) (ci := 5) (c_R_no l D cI cL cZ H.size a_this a_gravel a_kind a_own a_likely a_tape a_holding a_rowLength a_rowOf a_refusals a_old a_ahead a_cost a_may a_rest a_way (-5 : Int32) c_n c_rain c_ear c_many c_seed c_taped c_from c_to c_token c_value c_imaged c_refusals x14 hx14) (cwV 1 C.2.2.2.2.1 (gV wq_558 wq_559 wq_560 wq_551 wq_557) rfl rfl rfl (by decide +kernel) ⟨(Nat.le_of_ble_eq_true rfl), (Nat.le_of_ble_eq_true rfl)⟩) rfl rfl kEnv_T rfl rfl (Nat.le_of_ble_eq_true rfl) dX5_as_127 hP hD hz) rfl (by decide) rfl rfl ?_
            obtain rfl := Option.some.inj h
            exact kret_i C rfl dX5_as_130
        · have h := ifT c_113 h
          refine k_iload C dX5_as_116 0 rfl ?_
          obtain rfl := Option.some.inj h
          exact kret_i C rfl dX5_as_118
      · have h := ifT c_23 h
        refine k_lv (lv' := [(0, .ref a_this)]) [0] rfl ?_
        exact s_R_as_j26 C h
theorem c_R_as (l : Launch) (D : va_G) (cI : ClassId) (cL : ClassId) (cZ : ClassId) (sz : Nat) (a_this : Nat) (a_gravel : Nat) (a_kind : Nat) (a_own : Nat) (a_likely : Nat) (a_tape : Nat) (a_holding : Nat) (a_rowLength : Nat) (a_rowOf : Nat) (a_refusals : Nat) (a_old : Nat) (a_ahead : Nat) (a_cost : Nat) (a_may : Nat) (a_rest : Nat) (a_way : Nat) (v1 : Int32) (v2 : Int32) (v3 : Int32) (v4 : Int32) (c_n : Int32) (c_rain : Int32) (c_ear : Int32) (c_many : Int32) (c_seed : Int32) (c_taped : Int32) (c_from : Int32) (c_to : Int32) (c_token : Int32) (c_value : Int32) (c_imaged : Int32) (c_gravel : (Nat → Int32)) (c_kind : (Nat → Int32)) (c_own : (Nat → Int32)) (c_refusals : (Nat → Int32)) (c_may : (Nat → Int32)) (c_rest : (Nat → Int32)) (c_way : (Nat → Int32)) (x : (Int32 × (Nat → Int32) × (Nat → Int32) × (Nat → Int32) × (Nat → Int32))) (h : f_R_as v1 v2 v3 v4 c_n c_rain c_many c_gravel c_kind c_own c_refusals c_may c_rest c_way = some x) :
    Met l yX5_as (Cond.code yX5_as cX5_as 6 (some .int) :: WS) rm_R_as (kP D (tyG cI cL cZ) kTrue [.ref a_this, .int v1, .int v2, .int v3, .int v4] sz (cells_R_as cI cL cZ a_this a_gravel a_kind a_own a_likely a_tape a_holding a_rowLength a_rowOf a_refusals a_old a_ahead a_cost a_may a_rest a_way c_n c_rain c_ear c_many c_seed c_taped c_from c_to c_token c_value c_imaged c_gravel c_kind c_own c_refusals c_may c_rest c_way)) (kQi D (va_A (cells_R_as cI cL cZ a_this a_gravel a_kind a_own a_likely a_tape a_holding a_rowLength a_rowOf a_refusals a_old a_ahead a_cost a_may a_rest a_way c_n c_rain c_ear c_many c_seed c_taped c_from c_to c_token c_value c_imaged c_gravel c_kind c_own c_refusals c_may c_rest c_way) sz) (cells_R_as cI cL cZ a_this a_gravel a_kind a_own a_likely a_tape a_holding a_rowLength a_rowOf a_refusals a_old a_ahead a_cost a_may a_rest a_way c_n c_rain c_ear c_many c_seed c_taped c_from c_to c_token c_value c_imaged c_gravel c_kind c_own x.2.1 x.2.2.1 x.2.2.2.1 x.2.2.2.2) x.1) 0 0 (va_A (cells_R_as cI cL cZ a_this a_gravel a_kind a_own a_likely a_tape a_holding a_rowLength a_rowOf a_refusals a_old a_ahead a_cost a_may a_rest a_way c_n c_rain c_ear c_many c_seed c_taped c_from c_to c_token c_value c_imaged c_gravel c_kind c_own c_refusals c_may c_rest c_way) sz) :=
  kmet (by decide) (Nat.le_of_ble_eq_true rfl) rfl (fun p e s m below meth c C hE => s_R_as C h)
abbrev cells_R_two (cI : ClassId) (cL : ClassId) (cZ : ClassId) (a_this : Nat) (a_gravel : Nat) (a_kind : Nat) (a_own : Nat) (a_likely : Nat) (a_tape : Nat) (a_holding : Nat) (a_rowLength : Nat) (a_rowOf : Nat) (a_refusals : Nat) (a_old : Nat) (a_ahead : Nat) (a_cost : Nat) (a_may : Nat) (a_rest : Nat) (a_way : Nat) (c_n : Int32) (c_rain : Int32) (c_ear : Int32) (c_many : Int32) (c_seed : Int32) (c_taped : Int32) (c_from : Int32) (c_to : Int32) (c_token : Int32) (c_value : Int32) (c_imaged : Int32) (c_gravel : (Nat → Int32)) (c_kind : (Nat → Int32)) (c_own : (Nat → Int32)) (c_holding : (Nat → Int32)) (c_rowLength : (Nat → Int32)) (c_rowOf : (Nat → Int64)) (c_refusals : (Nat → Int32)) : va_W := [(a_this, .inr (5, [.int c_n, .ref a_gravel, .int c_rain, .int c_ear, .int c_many, .ref a_kind, .ref a_own, .ref a_likely, .int c_seed, .int c_taped, .ref a_tape, .int c_from, .int c_to, .int c_token, .int c_value, .ref a_holding, .ref a_rowLength, .ref a_rowOf, .ref a_refusals, .int c_imaged, .ref a_old, .ref a_ahead, .ref a_cost, .ref a_may, .ref a_rest, .ref a_way])), (a_gravel, .inl (cI, 36, .inl c_gravel)), (a_kind, .inl (cI, 8, .inl c_kind)), (a_own, .inl (cI, 8, .inl c_own)), (a_holding, .inl (cI, 8, .inl c_holding)), (a_rowLength, .inl (cI, 8, .inl c_rowLength)), (a_rowOf, .inl (cL, 320, .inr (.inl c_rowOf))), (a_refusals, .inl (cI, 7, .inl c_refusals))]
abbrev rm_R_two : Room := { frames := 3, cells := 0, slots := 0, locals := 78 }
set_option maxRecDepth 100000 in
set_option maxHeartbeats 4000000 in
theorem s_R_two_j38 (C : kC p l e rm_R_two s m args below meth c D (tyG cI cL cZ) A 12 cX5_two yX5_two.cls (Cond.code yX5_two cX5_two 12 (some .int) :: WS) (some .int)) {a_this : Nat} {a_gravel : Nat} {a_kind : Nat} {a_own : Nat} {a_likely : Nat} {a_tape : Nat} {a_holding : Nat} {a_rowLength : Nat} {a_rowOf : Nat} {a_refusals : Nat} {a_old : Nat} {a_ahead : Nat} {a_cost : Nat} {a_may : Nat} {a_rest : Nat} {a_way : Nat} {c_n : Int32} {c_rain : Int32} {c_ear : Int32} {c_many : Int32} {c_seed : Int32} {c_taped : Int32} {c_from : Int32} {c_to : Int32} {c_token : Int32} {c_value : Int32} {c_imaged : Int32} {c_gravel : (Nat → Int32)} {c_kind : (Nat → Int32)} {c_own : (Nat → Int32)} {c_holding : (Nat → Int32)} {c_rowLength : (Nat → Int32)} {c_rowOf : (Nat → Int64)} {c_refusals : (Nat → Int32)} {x : (Int32 × (Nat → Int32))} (h : f_R_two_j38 c_refusals = some x) :
    kW p l e rm_R_two s m args below meth c D A 12 (cells_R_two cI cL cZ a_this a_gravel a_kind a_own a_likely a_tape a_holding a_rowLength a_rowOf a_refusals a_old a_ahead a_cost a_may a_rest a_way c_n c_rain c_ear c_many c_seed c_taped c_from c_to c_token c_value c_imaged c_gravel c_kind c_own c_holding c_rowLength c_rowOf c_refusals) [(0, .ref a_this)] (MQ below (kQi D A (cells_R_two cI cL cZ a_this a_gravel a_kind a_own a_likely a_tape a_holding a_rowLength a_rowOf a_refusals a_old a_ahead a_cost a_may a_rest a_way c_n c_rain c_ear c_many c_seed c_taped c_from c_to c_token c_value c_imaged c_gravel c_kind c_own c_holding c_rowLength c_rowOf x.2) x.1) args s 0 0 A) 38 [] := by
  unfold f_R_two_j38 at h
  refine k_aload_n C dX5_two_38 0 rfl rfl ?_
  refine k_bipush C (v := (-2 : Int32)) dX5_two_39 (by decide) ?_
  obtain ⟨x2, hx2, h⟩ := bindE h
  refine kcallU_i C (wc := (cells_R_no cI cL cZ a_this a_gravel a_kind a_own a_likely a_tape a_holding a_rowLength a_rowOf a_refusals a_old a_ahead a_cost a_may a_rest a_way c_n c_rain c_ear c_many c_seed c_taped c_from c_to c_token c_value c_imaged c_refusals)) (w1 := (cells_R_no cI cL cZ a_this a_gravel a_kind a_own a_likely a_tape a_holding a_rowLength a_rowOf a_refusals a_old a_ahead a_cost a_may a_rest a_way c_n c_rain c_ear c_many c_seed c_taped c_from c_to c_token c_value c_imaged x2.2)) (ws' := (cells_R_two cI cL cZ a_this a_gravel a_kind a_own a_likely a_tape a_holding a_rowLength a_rowOf a_refusals a_old a_ahead a_cost a_may a_rest a_way c_n c_rain c_ear c_many c_seed c_taped c_from c_to c_token c_value c_imaged c_gravel c_kind c_own c_holding c_rowLength c_rowOf x2.2)) (r := x2.1) [0, 7] (fun H locs ls hP hD hS hF hz => krunV C (q0 := 0) (ci := 5) (c_R_no l D cI cL cZ H.size a_this a_gravel a_kind a_own a_likely a_tape a_holding a_rowLength a_rowOf a_refusals a_old a_ahead a_cost a_may a_rest a_way (-2 : Int32) c_n c_rain c_ear c_many c_seed c_taped c_from c_to c_token c_value c_imaged c_refusals x2 hx2) (cwV 1 C.2.2.2.2.1 (gV wq_558 wq_559 wq_560 wq_551 wq_557) rfl rfl rfl (by decide +kernel) ⟨(Nat.le_of_ble_eq_true rfl), (Nat.le_of_ble_eq_true rfl)⟩) rfl rfl kEnv_T rfl rfl (Nat.le_of_ble_eq_true rfl) dX5_two_41 hP hD hz) rfl (by decide) rfl rfl ?_
  obtain rfl := Option.some.inj h
  exact kret_i C rfl dX5_two_44
set_option maxRecDepth 100000 in
set_option maxHeartbeats 4000000 in
theorem s_R_two_b111 (C : kC p l e rm_R_two s m args below meth c D (tyG cI cL cZ) A 12 cX5_two yX5_two.cls (Cond.code yX5_two cX5_two 12 (some .int) :: WS) (some .int)) {a_this : Nat} {a_gravel : Nat} {a_kind : Nat} {a_own : Nat} {a_likely : Nat} {a_tape : Nat} {a_holding : Nat} {a_rowLength : Nat} {a_rowOf : Nat} {a_refusals : Nat} {a_old : Nat} {a_ahead : Nat} {a_cost : Nat} {a_may : Nat} {a_rest : Nat} {a_way : Nat} {v1 : Int32} {v2 : Int32} {v3 : Int32} {v4 : Int32} {v6 : Int32} {v7 : Int32} {v8 : Int32} {v9 : Int32} {v10 : Int32} {v11 : Int32} {c_n : Int32} {c_rain : Int32} {c_ear : Int32} {c_many : Int32} {c_seed : Int32} {c_taped : Int32} {c_from : Int32} {c_to : Int32} {c_token : Int32} {c_value : Int32} {c_imaged : Int32} {c_gravel : (Nat → Int32)} {c_kind : (Nat → Int32)} {c_own : (Nat → Int32)} {c_holding : (Nat → Int32)} {c_rowLength : (Nat → Int32)} {c_rowOf : (Nat → Int64)} {c_refusals : (Nat → Int32)} {x : ((Int32 × Int32) ⊕ Int32)} (h : f_R_two_b111 v1 v2 v3 v8 v9 c_n c_rain c_gravel c_kind c_own c_rowOf v10 v11 = some x)
    (kc : ∀ s', x = .inl s' → kW p l e rm_R_two s m args below meth c D A 12 (cells_R_two cI cL cZ a_this a_gravel a_kind a_own a_likely a_tape a_holding a_rowLength a_rowOf a_refusals a_old a_ahead a_cost a_may a_rest a_way c_n c_rain c_ear c_many c_seed c_taped c_from c_to c_token c_value c_imaged c_gravel c_kind c_own c_holding c_rowLength c_rowOf c_refusals) [(0, .ref a_this), (1, .int v1), (2, .int v2), (3, .int v3), (4, .int v4), (6, .int v6), (7, .int v7), (8, .int v8), (9, .int v9), (10, .int s'.1), (11, .int s'.2)] Q 111 [])
    (k0 : ∀ r, x = .inr r → kW p l e rm_R_two s m args below meth c D A 12 (cells_R_two cI cL cZ a_this a_gravel a_kind a_own a_likely a_tape a_holding a_rowLength a_rowOf a_refusals a_old a_ahead a_cost a_may a_rest a_way c_n c_rain c_ear c_many c_seed c_taped c_from c_to c_token c_value c_imaged c_gravel c_kind c_own c_holding c_rowLength c_rowOf c_refusals) [(0, .ref a_this), (1, .int v1), (2, .int v2), (3, .int v3), (4, .int v4), (6, .int v6), (7, .int v7), (8, .int v8), (9, .int v9), (10, .int r)] Q 176 []) :
    kW p l e rm_R_two s m args below meth c D A 12 (cells_R_two cI cL cZ a_this a_gravel a_kind a_own a_likely a_tape a_holding a_rowLength a_rowOf a_refusals a_old a_ahead a_cost a_may a_rest a_way c_n c_rain c_ear c_many c_seed c_taped c_from c_to c_token c_value c_imaged c_gravel c_kind c_own c_holding c_rowLength c_rowOf c_refusals) [(0, .ref a_this), (1, .int v1), (2, .int v2), (3, .int v3), (4, .int v4), (6, .int v6), (7, .int v7), (8, .int v8), (9, .int v9), (10, .int v10), (11, .int v11)] Q 111 [] := by
  unfold f_R_two_b111 at h
  refine k_iload C dX5_two_111 10 rfl ?_
  refine k_aload_n C dX5_two_113 0 rfl rfl ?_
  refine k_get C (C0 := RX5) (T := TX5) (N := 26) (fun w h => List.mem_cons_of_mem _ (us_R w h)) 0 rfl rfl 0 (by decide) (List.mem_cons_of_mem _ wq_552) rfl rfl dX5_two_114 ?_
  refine k_icmp_ge C (tgt := 176) dX5_two_117 (by decide) (fun c_117 => ?_) (fun c_117 => ?_)
  · have h := ifT c_117 h
    refine k_lv (lv' := [(0, .ref a_this), (1, .int v1), (2, .int v2), (3, .int v3), (4, .int v4), (6, .int v6), (7, .int v7), (8, .int v8), (9, .int v9), (10, .int v10)]) [0, 1, 2, 3, 4, 5, 6, 7, 8, 9] rfl ?_
    exact k0 _ (Option.some.inj h).symm
  · have h := ifF c_117 h
    refine k_aload_n C dX5_two_120 0 rfl rfl ?_
    refine k_iload_n C dX5_two_121 1 rfl rfl ?_
    refine k_iload C dX5_two_122 10 rfl ?_
    obtain ⟨x7, hx7, h⟩ := bindE h
    refine kcallR_l C (wc := (cells_R_toldAt cI cL cZ a_this a_gravel a_kind a_own a_likely a_tape a_holding a_rowLength a_rowOf a_refusals a_old a_ahead a_cost a_may a_rest a_way c_n c_rain c_ear c_many c_seed c_taped c_from c_to c_token c_value c_imaged c_rowOf)) (r := x7) [0, 6] (fun H locs ls hP hD hS hF hz => krunV C (q0 := 0) (ci := 5) (c_R_toldAt l D cI cL cZ H.size a_this a_gravel a_kind a_own a_likely a_tape a_holding a_rowLength a_rowOf a_refusals a_old a_ahead a_cost a_may a_rest a_way v1 v11 c_n c_rain c_ear c_many c_seed c_taped c_from c_to c_token c_value c_imaged c_rowOf x7 hx7) (cwV 2 C.2.2.2.2.1 (gV wq_744 wq_745 wq_746 wq_551 wq_743) rfl rfl rfl (by decide +kernel) ⟨(Nat.le_of_ble_eq_true rfl), (Nat.le_of_ble_eq_true rfl)⟩) rfl rfl kEnv_T rfl rfl (Nat.le_of_ble_eq_true rfl) dX5_two_124 hP hD hz) rfl (by decide) ?_
    refine k_aload_n C dX5_two_127 0 rfl rfl ?_
    refine k_iload C dX5_two_128 7 rfl ?_
    refine k_iload C dX5_two_130 10 rfl ?_
    refine k_aload_n C dX5_two_132 0 rfl rfl ?_
    refine k_get C (C0 := RX5) (T := TX5) (N := 26) (fun w h => List.mem_cons_of_mem _ (us_R w h)) 0 rfl rfl 0 (by decide) (List.mem_cons_of_mem _ wq_552) rfl rfl dX5_two_133 ?_
    refine k_imul C dX5_two_136 ?_
    refine k_iload_n C dX5_two_137 2 rfl rfl ?_
    refine k_iadd C dX5_two_138 ?_
    refine k_iload C dX5_two_139 10 rfl ?_
    obtain ⟨x8, hx8, h⟩ := bindE h
    refine kcallR_i C (wc := (cells_R_crunches cI cL cZ a_this a_gravel a_kind a_own a_likely a_tape a_holding a_rowLength a_rowOf a_refusals a_old a_ahead a_cost a_may a_rest a_way c_n c_rain c_ear c_many c_seed c_taped c_from c_to c_token c_value c_imaged c_gravel c_kind c_own)) (r := x8) [0, 1, 2, 3] (fun H locs ls hP hD hS hF hz => krunV C (q0 := 0) (ci := 5) (c_R_crunches l D cI cL cZ H.size a_this a_gravel a_kind a_own a_likely a_tape a_holding a_rowLength a_rowOf a_refusals a_old a_ahead a_cost a_may a_rest a_way v8 ((v11 * c_n) + v2) v11 c_n c_rain c_ear c_many c_seed c_taped c_from c_to c_token c_value c_imaged c_gravel c_kind c_own x8 hx8) (cwV 3 C.2.2.2.2.1 (gV wq_591 wq_592 wq_593 wq_551 wq_590) rfl rfl rfl (by decide +kernel) ⟨(Nat.le_of_ble_eq_true rfl), (Nat.le_of_ble_eq_true rfl)⟩) rfl rfl kEnv_T rfl rfl (Nat.le_of_ble_eq_true rfl) dX5_two_141 hP hD hz) rfl (by decide) ?_
    refine k_aload_n C dX5_two_144 0 rfl rfl ?_
    refine k_iload C dX5_two_145 8 rfl ?_
    refine k_iload C dX5_two_147 10 rfl ?_
    refine k_aload_n C dX5_two_149 0 rfl rfl ?_
    refine k_get C (C0 := RX5) (T := TX5) (N := 26) (fun w h => List.mem_cons_of_mem _ (us_R w h)) 0 rfl rfl 0 (by decide) (List.mem_cons_of_mem _ wq_552) rfl rfl dX5_two_150 ?_
    refine k_imul C dX5_two_153 ?_
    refine k_iload_n C dX5_two_154 3 rfl rfl ?_
    refine k_iadd C dX5_two_155 ?_
    refine k_iload C dX5_two_156 10 rfl ?_
    obtain ⟨x9, hx9, h⟩ := bindE h
    refine kcallR_i C (wc := (cells_R_crunches cI cL cZ a_this a_gravel a_kind a_own a_likely a_tape a_holding a_rowLength a_rowOf a_refusals a_old a_ahead a_cost a_may a_rest a_way c_n c_rain c_ear c_many c_seed c_taped c_from c_to c_token c_value c_imaged c_gravel c_kind c_own)) (r := x9) [0, 1, 2, 3] (fun H locs ls hP hD hS hF hz => krunV C (q0 := 0) (ci := 5) (c_R_crunches l D cI cL cZ H.size a_this a_gravel a_kind a_own a_likely a_tape a_holding a_rowLength a_rowOf a_refusals a_old a_ahead a_cost a_may a_rest a_way v9 ((v11 * c_n) + v3) v11 c_n c_rain c_ear c_many c_seed c_taped c_from c_to c_token c_value c_imaged c_gravel c_kind c_own x9 hx9) (cwV 3 C.2.2.2.2.1 (gV wq_591 wq_592 wq_593 wq_551 wq_590) rfl rfl rfl (by decide +kernel) ⟨(Nat.le_of_ble_eq_true rfl), (Nat.le_of_ble_eq_true rfl)⟩) rfl rfl kEnv_T rfl rfl (Nat.le_of_ble_eq_true rfl) dX5_two_158 hP hD hz) rfl (by decide) ?_
    refine k_iadd C dX5_two_161 ?_
    refine k_i2l C dX5_two_162 ?_
    refine k_lcmp C dX5_two_163 ?_
    refine k_if_eq C (tgt := 170) dX5_two_164 (by decide) (fun c_164 => ?_) (fun c_164 => ?_)
    · have h := ifT c_164 h
      refine k_iinc C (v := (v11 + (1 : Int32))) (lv' := [(11, .int (v11 + (1 : Int32))), (0, .ref a_this), (1, .int v1), (2, .int v2), (3, .int v3), (4, .int v4), (6, .int v6), (7, .int v7), (8, .int v8), (9, .int v9), (10, .int v10)]) dX5_two_170 10 rfl rfl (by decide) rfl ?_
      refine k_goto C (tgt := 111) dX5_two_173 (by decide) ?_
      refine k_lv (lv' := [(0, .ref a_this), (1, .int v1), (2, .int v2), (3, .int v3), (4, .int v4), (6, .int v6), (7, .int v7), (8, .int v8), (9, .int v9), (10, .int v10), (11, .int (v11 + (1 : Int32)))]) [1, 2, 3, 4, 5, 6, 7, 8, 9, 10, 0] rfl ?_
      exact kc _ (Option.some.inj h).symm
    · have h := ifF c_164 h
      refine k_iconst C (v := (0 : Int32)) dX5_two_167 (by decide) ?_
      refine k_istore C (lv' := [(10, .int (0 : Int32)), (0, .ref a_this), (1, .int v1), (2, .int v2), (3, .int v3), (4, .int v4), (6, .int v6), (7, .int v7), (8, .int v8), (9, .int v9), (11, .int v11)]) dX5_two_168 (by decide) rfl ?_
      refine k_iinc C (v := (v11 + (1 : Int32))) (lv' := [(11, .int (v11 + (1 : Int32))), (10, .int (0 : Int32)), (0, .ref a_this), (1, .int v1), (2, .int v2), (3, .int v3), (4, .int v4), (6, .int v6), (7, .int v7), (8, .int v8), (9, .int v9)]) dX5_two_170 10 rfl rfl (by decide) rfl ?_
      refine k_goto C (tgt := 111) dX5_two_173 (by decide) ?_
      refine k_lv (lv' := [(0, .ref a_this), (1, .int v1), (2, .int v2), (3, .int v3), (4, .int v4), (6, .int v6), (7, .int v7), (8, .int v8), (9, .int v9), (10, .int (0 : Int32)), (11, .int (v11 + (1 : Int32)))]) [2, 3, 4, 5, 6, 7, 8, 9, 10, 1, 0] rfl ?_
      exact kc _ (Option.some.inj h).symm
set_option maxRecDepth 100000 in
set_option maxHeartbeats 4000000 in
theorem s_R_two_l111 (C : kC p l e rm_R_two s m args below meth c D (tyG cI cL cZ) A 12 cX5_two yX5_two.cls (Cond.code yX5_two cX5_two 12 (some .int) :: WS) (some .int)) {a_this : Nat} {a_gravel : Nat} {a_kind : Nat} {a_own : Nat} {a_likely : Nat} {a_tape : Nat} {a_holding : Nat} {a_rowLength : Nat} {a_rowOf : Nat} {a_refusals : Nat} {a_old : Nat} {a_ahead : Nat} {a_cost : Nat} {a_may : Nat} {a_rest : Nat} {a_way : Nat} {v1 : Int32} {v2 : Int32} {v3 : Int32} {v4 : Int32} {v6 : Int32} {v7 : Int32} {v8 : Int32} {v9 : Int32} {v10 : Int32} {v11 : Int32} {c_n : Int32} {c_rain : Int32} {c_ear : Int32} {c_many : Int32} {c_seed : Int32} {c_taped : Int32} {c_from : Int32} {c_to : Int32} {c_token : Int32} {c_value : Int32} {c_imaged : Int32} {c_gravel : (Nat → Int32)} {c_kind : (Nat → Int32)} {c_own : (Nat → Int32)} {c_holding : (Nat → Int32)} {c_rowLength : (Nat → Int32)} {c_rowOf : (Nat → Int64)} {c_refusals : (Nat → Int32)} {x : Int32} (h : f_R_two_l111 v1 v2 v3 v8 v9 c_n c_rain c_gravel c_kind c_own c_rowOf v10 v11 = some x)
    (k0 : kW p l e rm_R_two s m args below meth c D A 12 (cells_R_two cI cL cZ a_this a_gravel a_kind a_own a_likely a_tape a_holding a_rowLength a_rowOf a_refusals a_old a_ahead a_cost a_may a_rest a_way c_n c_rain c_ear c_many c_seed c_taped c_from c_to c_token c_value c_imaged c_gravel c_kind c_own c_holding c_rowLength c_rowOf c_refusals) [(0, .ref a_this), (1, .int v1), (2, .int v2), (3, .int v3), (4, .int v4), (6, .int v6), (7, .int v7), (8, .int v8), (9, .int v9), (10, .int x)] Q 176 []) :
    kW p l e rm_R_two s m args below meth c D A 12 (cells_R_two cI cL cZ a_this a_gravel a_kind a_own a_likely a_tape a_holding a_rowLength a_rowOf a_refusals a_old a_ahead a_cost a_may a_rest a_way c_n c_rain c_ear c_many c_seed c_taped c_from c_to c_token c_value c_imaged c_gravel c_kind c_own c_holding c_rowLength c_rowOf c_refusals) [(0, .ref a_this), (1, .int v1), (2, .int v2), (3, .int v3), (4, .int v4), (6, .int v6), (7, .int v7), (8, .int v8), (9, .int v9), (10, .int v10), (11, .int v11)] Q 111 [] := by
  unfold f_R_two_l111 at h
  exact iter_W (body := fun s => f_R_two_b111 v1 v2 v3 v8 v9 c_n c_rain c_gravel c_kind c_own c_rowOf s.1 s.2) (r := x) (T := fun sg => kW p l e rm_R_two s m args below meth c D A 12 (cells_R_two cI cL cZ a_this a_gravel a_kind a_own a_likely a_tape a_holding a_rowLength a_rowOf a_refusals a_old a_ahead a_cost a_may a_rest a_way c_n c_rain c_ear c_many c_seed c_taped c_from c_to c_token c_value c_imaged c_gravel c_kind c_own c_holding c_rowLength c_rowOf c_refusals) [(0, .ref a_this), (1, .int v1), (2, .int v2), (3, .int v3), (4, .int v4), (6, .int v6), (7, .int v7), (8, .int v8), (9, .int v9), (10, .int sg.1), (11, .int sg.2)] Q 111 []) (fun sg y hy hc _ hr => s_R_two_b111 C (v1 := v1) (v2 := v2) (v3 := v3) (v4 := v4) (v6 := v6) (v7 := v7) (v8 := v8) (v9 := v9) (v10 := sg.1) (v11 := sg.2) (c_n := c_n) (c_rain := c_rain) (c_ear := c_ear) (c_many := c_many) (c_seed := c_seed) (c_taped := c_taped) (c_from := c_from) (c_to := c_to) (c_token := c_token) (c_value := c_value) (c_imaged := c_imaged) (c_gravel := c_gravel) (c_kind := c_kind) (c_own := c_own) (c_holding := c_holding) (c_rowLength := c_rowLength) (c_rowOf := c_rowOf) (c_refusals := c_refusals) (x := y) hy hc (fun r e => by rw [hr r e]; exact k0)) FUEL (v10, v11) h
set_option maxRecDepth 100000 in
set_option maxHeartbeats 4000000 in
theorem s_R_two_j106 (C : kC p l e rm_R_two s m args below meth c D (tyG cI cL cZ) A 12 cX5_two yX5_two.cls (Cond.code yX5_two cX5_two 12 (some .int) :: WS) (some .int)) {a_this : Nat} {a_gravel : Nat} {a_kind : Nat} {a_own : Nat} {a_likely : Nat} {a_tape : Nat} {a_holding : Nat} {a_rowLength : Nat} {a_rowOf : Nat} {a_refusals : Nat} {a_old : Nat} {a_ahead : Nat} {a_cost : Nat} {a_may : Nat} {a_rest : Nat} {a_way : Nat} {v1 : Int32} {v2 : Int32} {v3 : Int32} {v4 : Int32} {v6 : Int32} {v7 : Int32} {v8 : Int32} {v9 : Int32} {t0 : Int32} {c_n : Int32} {c_rain : Int32} {c_ear : Int32} {c_many : Int32} {c_seed : Int32} {c_taped : Int32} {c_from : Int32} {c_to : Int32} {c_token : Int32} {c_value : Int32} {c_imaged : Int32} {c_gravel : (Nat → Int32)} {c_kind : (Nat → Int32)} {c_own : (Nat → Int32)} {c_holding : (Nat → Int32)} {c_rowLength : (Nat → Int32)} {c_rowOf : (Nat → Int64)} {c_refusals : (Nat → Int32)} {x : ((Int32 × Int32 × Int32) ⊕ (Int32 × Int32))} (h : f_R_two_j106 v1 v2 v3 v6 v7 v8 v9 t0 c_n c_rain c_gravel c_kind c_own c_rowOf = some x)
    (kc : ∀ s', x = .inl s' → kW p l e rm_R_two s m args below meth c D A 12 (cells_R_two cI cL cZ a_this a_gravel a_kind a_own a_likely a_tape a_holding a_rowLength a_rowOf a_refusals a_old a_ahead a_cost a_may a_rest a_way c_n c_rain c_ear c_many c_seed c_taped c_from c_to c_token c_value c_imaged c_gravel c_kind c_own c_holding c_rowLength c_rowOf c_refusals) [(0, .ref a_this), (1, .int v1), (2, .int v2), (3, .int v3), (4, .int v4), (6, .int s'.1), (7, .int s'.2.1), (8, .int v8), (9, .int s'.2.2)] Q 85 [])
    (k0 : ∀ r, x = .inr r → kW p l e rm_R_two s m args below meth c D A 12 (cells_R_two cI cL cZ a_this a_gravel a_kind a_own a_likely a_tape a_holding a_rowLength a_rowOf a_refusals a_old a_ahead a_cost a_may a_rest a_way c_n c_rain c_ear c_many c_seed c_taped c_from c_to c_token c_value c_imaged c_gravel c_kind c_own c_holding c_rowLength c_rowOf c_refusals) [(0, .ref a_this), (1, .int v1), (2, .int v2), (3, .int v3), (4, .int v4), (6, .int r.1), (7, .int r.2), (8, .int v8)] Q 209 []) :
    kW p l e rm_R_two s m args below meth c D A 12 (cells_R_two cI cL cZ a_this a_gravel a_kind a_own a_likely a_tape a_holding a_rowLength a_rowOf a_refusals a_old a_ahead a_cost a_may a_rest a_way c_n c_rain c_ear c_many c_seed c_taped c_from c_to c_token c_value c_imaged c_gravel c_kind c_own c_holding c_rowLength c_rowOf c_refusals) [(0, .ref a_this), (1, .int v1), (2, .int v2), (3, .int v3), (4, .int v4), (6, .int v6), (7, .int v7), (8, .int v8), (9, .int v9)] Q 106 [.int t0] := by
  unfold f_R_two_j106 at h
  refine k_istore C (lv' := [(10, .int t0), (0, .ref a_this), (1, .int v1), (2, .int v2), (3, .int v3), (4, .int v4), (6, .int v6), (7, .int v7), (8, .int v8), (9, .int v9)]) dX5_two_106 (by decide) rfl ?_
  refine k_iconst C (v := (0 : Int32)) dX5_two_108 (by decide) ?_
  refine k_istore C (lv' := [(11, .int (0 : Int32)), (10, .int t0), (0, .ref a_this), (1, .int v1), (2, .int v2), (3, .int v3), (4, .int v4), (6, .int v6), (7, .int v7), (8, .int v8), (9, .int v9)]) dX5_two_109 (by decide) rfl ?_
  obtain ⟨x10, hx10, h⟩ := bindE h
  refine k_lv (lv' := [(0, .ref a_this), (1, .int v1), (2, .int v2), (3, .int v3), (4, .int v4), (6, .int v6), (7, .int v7), (8, .int v8), (9, .int v9), (10, .int t0), (11, .int (0 : Int32))]) [2, 3, 4, 5, 6, 7, 8, 9, 10, 1, 0] rfl ?_
  refine s_R_two_l111 C hx10 ?_
  refine k_iload C dX5_two_176 9 rfl ?_
  refine k_if_ne C (tgt := 184) dX5_two_178 (by decide) (fun c_178 => ?_) (fun c_178 => ?_)
  · have h := ifF c_178 h
    refine k_iinc C (v := (v6 + (1 : Int32))) (lv' := [(6, .int (v6 + (1 : Int32))), (0, .ref a_this), (1, .int v1), (2, .int v2), (3, .int v3), (4, .int v4), (7, .int v7), (8, .int v8), (9, .int v9), (10, .int x10)]) dX5_two_184 5 rfl rfl (by decide) rfl ?_
    refine k_iload C dX5_two_187 6 rfl ?_
    refine k_iconst C (v := (-1 : Int32)) dX5_two_189 (by decide) ?_
    refine k_icmp_ne C (tgt := 203) dX5_two_190 (by decide) (fun c_190 => ?_) (fun c_190 => ?_)
    · have h := ifF c_190 h
      refine k_iinc C (v := (v9 + (1 : Int32))) (lv' := [(9, .int (v9 + (1 : Int32))), (6, .int (v6 + (1 : Int32))), (0, .ref a_this), (1, .int v1), (2, .int v2), (3, .int v3), (4, .int v4), (7, .int v7), (8, .int v8), (10, .int x10)]) dX5_two_203 8 rfl rfl (by decide) rfl ?_
      refine k_goto C (tgt := 85) dX5_two_206 (by decide) ?_
      refine k_lv (lv' := [(0, .ref a_this), (1, .int v1), (2, .int v2), (3, .int v3), (4, .int v4), (6, .int (v6 + (1 : Int32))), (7, .int v7), (8, .int v8), (9, .int (v9 + (1 : Int32)))]) [2, 3, 4, 5, 6, 1, 7, 8, 0] rfl ?_
      exact kc _ (Option.some.inj h).symm
    · have h := ifT c_190 h
      refine k_bipush C (v := (10 : Int32)) dX5_two_193 (by decide) ?_
      refine k_iload C dX5_two_195 7 rfl ?_
      refine k_imul C dX5_two_197 ?_
      refine k_iload C dX5_two_198 8 rfl ?_
      refine k_iadd C dX5_two_200 ?_
      refine k_istore C (lv' := [(7, .int (((10 : Int32) * v8) + v9)), (6, .int (v6 + (1 : Int32))), (0, .ref a_this), (1, .int v1), (2, .int v2), (3, .int v3), (4, .int v4), (8, .int v8), (9, .int v9), (10, .int x10)]) dX5_two_201 (by decide) rfl ?_
      refine k_iinc C (v := (v9 + (1 : Int32))) (lv' := [(9, .int (v9 + (1 : Int32))), (7, .int (((10 : Int32) * v8) + v9)), (6, .int (v6 + (1 : Int32))), (0, .ref a_this), (1, .int v1), (2, .int v2), (3, .int v3), (4, .int v4), (8, .int v8), (10, .int x10)]) dX5_two_203 8 rfl rfl (by decide) rfl ?_
      refine k_goto C (tgt := 85) dX5_two_206 (by decide) ?_
      refine k_lv (lv' := [(0, .ref a_this), (1, .int v1), (2, .int v2), (3, .int v3), (4, .int v4), (6, .int (v6 + (1 : Int32))), (7, .int (((10 : Int32) * v8) + v9)), (8, .int v8), (9, .int (v9 + (1 : Int32)))]) [3, 4, 5, 6, 7, 2, 1, 8, 0] rfl ?_
      exact kc _ (Option.some.inj h).symm
  · have h := ifT c_178 h
    refine k_goto C (tgt := 203) dX5_two_181 (by decide) ?_
    refine k_iinc C (v := (v9 + (1 : Int32))) (lv' := [(9, .int (v9 + (1 : Int32))), (0, .ref a_this), (1, .int v1), (2, .int v2), (3, .int v3), (4, .int v4), (6, .int v6), (7, .int v7), (8, .int v8), (10, .int x10)]) dX5_two_203 8 rfl rfl (by decide) rfl ?_
    refine k_goto C (tgt := 85) dX5_two_206 (by decide) ?_
    refine k_lv (lv' := [(0, .ref a_this), (1, .int v1), (2, .int v2), (3, .int v3), (4, .int v4), (6, .int v6), (7, .int v7), (8, .int v8), (9, .int (v9 + (1 : Int32)))]) [1, 2, 3, 4, 5, 6, 7, 8, 0] rfl ?_
    exact kc _ (Option.some.inj h).symm
set_option maxRecDepth 100000 in
set_option maxHeartbeats 4000000 in
theorem s_R_two_b85 (C : kC p l e rm_R_two s m args below meth c D (tyG cI cL cZ) A 12 cX5_two yX5_two.cls (Cond.code yX5_two cX5_two 12 (some .int) :: WS) (some .int)) {a_this : Nat} {a_gravel : Nat} {a_kind : Nat} {a_own : Nat} {a_likely : Nat} {a_tape : Nat} {a_holding : Nat} {a_rowLength : Nat} {a_rowOf : Nat} {a_refusals : Nat} {a_old : Nat} {a_ahead : Nat} {a_cost : Nat} {a_may : Nat} {a_rest : Nat} {a_way : Nat} {v1 : Int32} {v2 : Int32} {v3 : Int32} {v4 : Int32} {v6 : Int32} {v7 : Int32} {v8 : Int32} {v9 : Int32} {c_n : Int32} {c_rain : Int32} {c_ear : Int32} {c_many : Int32} {c_seed : Int32} {c_taped : Int32} {c_from : Int32} {c_to : Int32} {c_token : Int32} {c_value : Int32} {c_imaged : Int32} {c_gravel : (Nat → Int32)} {c_kind : (Nat → Int32)} {c_own : (Nat → Int32)} {c_holding : (Nat → Int32)} {c_rowLength : (Nat → Int32)} {c_rowOf : (Nat → Int64)} {c_refusals : (Nat → Int32)} {x : ((Int32 × Int32 × Int32) ⊕ (Int32 × Int32))} (h : f_R_two_b85 v1 v2 v3 v8 c_n c_rain c_many c_gravel c_kind c_own c_rowOf v6 v7 v9 = some x)
    (kc : ∀ s', x = .inl s' → kW p l e rm_R_two s m args below meth c D A 12 (cells_R_two cI cL cZ a_this a_gravel a_kind a_own a_likely a_tape a_holding a_rowLength a_rowOf a_refusals a_old a_ahead a_cost a_may a_rest a_way c_n c_rain c_ear c_many c_seed c_taped c_from c_to c_token c_value c_imaged c_gravel c_kind c_own c_holding c_rowLength c_rowOf c_refusals) [(0, .ref a_this), (1, .int v1), (2, .int v2), (3, .int v3), (4, .int v4), (6, .int s'.1), (7, .int s'.2.1), (8, .int v8), (9, .int s'.2.2)] Q 85 [])
    (k0 : ∀ r, x = .inr r → kW p l e rm_R_two s m args below meth c D A 12 (cells_R_two cI cL cZ a_this a_gravel a_kind a_own a_likely a_tape a_holding a_rowLength a_rowOf a_refusals a_old a_ahead a_cost a_may a_rest a_way c_n c_rain c_ear c_many c_seed c_taped c_from c_to c_token c_value c_imaged c_gravel c_kind c_own c_holding c_rowLength c_rowOf c_refusals) [(0, .ref a_this), (1, .int v1), (2, .int v2), (3, .int v3), (4, .int v4), (6, .int r.1), (7, .int r.2), (8, .int v8)] Q 209 []) :
    kW p l e rm_R_two s m args below meth c D A 12 (cells_R_two cI cL cZ a_this a_gravel a_kind a_own a_likely a_tape a_holding a_rowLength a_rowOf a_refusals a_old a_ahead a_cost a_may a_rest a_way c_n c_rain c_ear c_many c_seed c_taped c_from c_to c_token c_value c_imaged c_gravel c_kind c_own c_holding c_rowLength c_rowOf c_refusals) [(0, .ref a_this), (1, .int v1), (2, .int v2), (3, .int v3), (4, .int v4), (6, .int v6), (7, .int v7), (8, .int v8), (9, .int v9)] Q 85 [] := by
  unfold f_R_two_b85 at h
  refine k_iload C dX5_two_85 8 rfl ?_
  refine k_aload_n C dX5_two_87 0 rfl rfl ?_
  refine k_get C (C0 := RX5) (T := TX5) (N := 26) (fun w h => List.mem_cons_of_mem _ (us_R w h)) 0 rfl rfl 4 (by decide) (List.mem_cons_of_mem _ wq_547) rfl rfl dX5_two_88 ?_
  refine k_icmp_ge C (tgt := 209) dX5_two_91 (by decide) (fun c_91 => ?_) (fun c_91 => ?_)
  · have h := ifT c_91 h
    refine k_lv (lv' := [(0, .ref a_this), (1, .int v1), (2, .int v2), (3, .int v3), (4, .int v4), (6, .int v6), (7, .int v7), (8, .int v8)]) [0, 1, 2, 3, 4, 5, 6, 7] rfl ?_
    exact k0 _ (Option.some.inj h).symm
  · have h := ifF c_91 h
    refine k_iload C dX5_two_94 7 rfl ?_
    refine k_iload C dX5_two_96 8 rfl ?_
    refine k_icmp_eq C (tgt := 105) dX5_two_98 (by decide) (fun c_98 => ?_) (fun c_98 => ?_)
    · have h := ifT c_98 h
      refine k_iconst C (v := (0 : Int32)) dX5_two_105 (by decide) ?_
      exact s_R_two_j106 C h kc k0
    · have h := ifF c_98 h
      refine k_iconst C (v := (1 : Int32)) dX5_two_101 (by decide) ?_
      refine k_goto C (tgt := 106) dX5_two_102 (by decide) ?_
      exact s_R_two_j106 C h kc k0
set_option maxRecDepth 100000 in
set_option maxHeartbeats 4000000 in
theorem s_R_two_l85 (C : kC p l e rm_R_two s m args below meth c D (tyG cI cL cZ) A 12 cX5_two yX5_two.cls (Cond.code yX5_two cX5_two 12 (some .int) :: WS) (some .int)) {a_this : Nat} {a_gravel : Nat} {a_kind : Nat} {a_own : Nat} {a_likely : Nat} {a_tape : Nat} {a_holding : Nat} {a_rowLength : Nat} {a_rowOf : Nat} {a_refusals : Nat} {a_old : Nat} {a_ahead : Nat} {a_cost : Nat} {a_may : Nat} {a_rest : Nat} {a_way : Nat} {v1 : Int32} {v2 : Int32} {v3 : Int32} {v4 : Int32} {v6 : Int32} {v7 : Int32} {v8 : Int32} {v9 : Int32} {c_n : Int32} {c_rain : Int32} {c_ear : Int32} {c_many : Int32} {c_seed : Int32} {c_taped : Int32} {c_from : Int32} {c_to : Int32} {c_token : Int32} {c_value : Int32} {c_imaged : Int32} {c_gravel : (Nat → Int32)} {c_kind : (Nat → Int32)} {c_own : (Nat → Int32)} {c_holding : (Nat → Int32)} {c_rowLength : (Nat → Int32)} {c_rowOf : (Nat → Int64)} {c_refusals : (Nat → Int32)} {x : (Int32 × Int32)} (h : f_R_two_l85 v1 v2 v3 v8 c_n c_rain c_many c_gravel c_kind c_own c_rowOf v6 v7 v9 = some x)
    (k0 : kW p l e rm_R_two s m args below meth c D A 12 (cells_R_two cI cL cZ a_this a_gravel a_kind a_own a_likely a_tape a_holding a_rowLength a_rowOf a_refusals a_old a_ahead a_cost a_may a_rest a_way c_n c_rain c_ear c_many c_seed c_taped c_from c_to c_token c_value c_imaged c_gravel c_kind c_own c_holding c_rowLength c_rowOf c_refusals) [(0, .ref a_this), (1, .int v1), (2, .int v2), (3, .int v3), (4, .int v4), (6, .int x.1), (7, .int x.2), (8, .int v8)] Q 209 []) :
    kW p l e rm_R_two s m args below meth c D A 12 (cells_R_two cI cL cZ a_this a_gravel a_kind a_own a_likely a_tape a_holding a_rowLength a_rowOf a_refusals a_old a_ahead a_cost a_may a_rest a_way c_n c_rain c_ear c_many c_seed c_taped c_from c_to c_token c_value c_imaged c_gravel c_kind c_own c_holding c_rowLength c_rowOf c_refusals) [(0, .ref a_this), (1, .int v1), (2, .int v2), (3, .int v3), (4, .int v4), (6, .int v6), (7, .int v7), (8, .int v8), (9, .int v9)] Q 85 [] := by
  unfold f_R_two_l85 at h
  exact iter_W (body := fun s => f_R_two_b85 v1 v2 v3 v8 c_n c_rain c_many c_gravel c_kind c_own c_rowOf s.1 s.2.1 s.2.2) (r := x) (T := fun sg => kW p l e rm_R_two s m args below meth c D A 12 (cells_R_two cI cL cZ a_this a_gravel a_kind a_own a_likely a_tape a_holding a_rowLength a_rowOf a_refusals a_old a_ahead a_cost a_may a_rest a_way c_n c_rain c_ear c_many c_seed c_taped c_from c_to c_token c_value c_imaged c_gravel c_kind c_own c_holding c_rowLength c_rowOf c_refusals) [(0, .ref a_this), (1, .int v1), (2, .int v2), (3, .int v3), (4, .int v4), (6, .int sg.1), (7, .int sg.2.1), (8, .int v8), (9, .int sg.2.2)] Q 85 []) (fun sg y hy hc _ hr => s_R_two_b85 C (v1 := v1) (v2 := v2) (v3 := v3) (v4 := v4) (v6 := sg.1) (v7 := sg.2.1) (v8 := v8) (v9 := sg.2.2) (c_n := c_n) (c_rain := c_rain) (c_ear := c_ear) (c_many := c_many) (c_seed := c_seed) (c_taped := c_taped) (c_from := c_from) (c_to := c_to) (c_token := c_token) (c_value := c_value) (c_imaged := c_imaged) (c_gravel := c_gravel) (c_kind := c_kind) (c_own := c_own) (c_holding := c_holding) (c_rowLength := c_rowLength) (c_rowOf := c_rowOf) (c_refusals := c_refusals) (x := y) hy hc (fun r e => by rw [hr r e]; exact k0)) FUEL (v6, v7, v9) h
set_option maxRecDepth 100000 in
set_option maxHeartbeats 4000000 in
theorem s_R_two_b73 (C : kC p l e rm_R_two s m args below meth c D (tyG cI cL cZ) A 12 cX5_two yX5_two.cls (Cond.code yX5_two cX5_two 12 (some .int) :: WS) (some .int)) {a_this : Nat} {a_gravel : Nat} {a_kind : Nat} {a_own : Nat} {a_likely : Nat} {a_tape : Nat} {a_holding : Nat} {a_rowLength : Nat} {a_rowOf : Nat} {a_refusals : Nat} {a_old : Nat} {a_ahead : Nat} {a_cost : Nat} {a_may : Nat} {a_rest : Nat} {a_way : Nat} {v1 : Int32} {v2 : Int32} {v3 : Int32} {v4 : Int32} {v6 : Int32} {v7 : Int32} {v8 : Int32} {c_n : Int32} {c_rain : Int32} {c_ear : Int32} {c_many : Int32} {c_seed : Int32} {c_taped : Int32} {c_from : Int32} {c_to : Int32} {c_token : Int32} {c_value : Int32} {c_imaged : Int32} {c_gravel : (Nat → Int32)} {c_kind : (Nat → Int32)} {c_own : (Nat → Int32)} {c_holding : (Nat → Int32)} {c_rowLength : (Nat → Int32)} {c_rowOf : (Nat → Int64)} {c_refusals : (Nat → Int32)} {x : ((Int32 × Int32 × Int32) ⊕ (Int32 × Int32))} (h : f_R_two_b73 v1 v2 v3 c_n c_rain c_many c_gravel c_kind c_own c_rowOf v6 v7 v8 = some x)
    (kc : ∀ s', x = .inl s' → kW p l e rm_R_two s m args below meth c D A 12 (cells_R_two cI cL cZ a_this a_gravel a_kind a_own a_likely a_tape a_holding a_rowLength a_rowOf a_refusals a_old a_ahead a_cost a_may a_rest a_way c_n c_rain c_ear c_many c_seed c_taped c_from c_to c_token c_value c_imaged c_gravel c_kind c_own c_holding c_rowLength c_rowOf c_refusals) [(0, .ref a_this), (1, .int v1), (2, .int v2), (3, .int v3), (4, .int v4), (6, .int s'.1), (7, .int s'.2.1), (8, .int s'.2.2)] Q 73 [])
    (k0 : ∀ r, x = .inr r → kW p l e rm_R_two s m args below meth c D A 12 (cells_R_two cI cL cZ a_this a_gravel a_kind a_own a_likely a_tape a_holding a_rowLength a_rowOf a_refusals a_old a_ahead a_cost a_may a_rest a_way c_n c_rain c_ear c_many c_seed c_taped c_from c_to c_token c_value c_imaged c_gravel c_kind c_own c_holding c_rowLength c_rowOf c_refusals) [(4, .int v4), (6, .int r.1), (7, .int r.2)] Q 215 []) :
    kW p l e rm_R_two s m args below meth c D A 12 (cells_R_two cI cL cZ a_this a_gravel a_kind a_own a_likely a_tape a_holding a_rowLength a_rowOf a_refusals a_old a_ahead a_cost a_may a_rest a_way c_n c_rain c_ear c_many c_seed c_taped c_from c_to c_token c_value c_imaged c_gravel c_kind c_own c_holding c_rowLength c_rowOf c_refusals) [(0, .ref a_this), (1, .int v1), (2, .int v2), (3, .int v3), (4, .int v4), (6, .int v6), (7, .int v7), (8, .int v8)] Q 73 [] := by
  unfold f_R_two_b73 at h
  refine k_iload C dX5_two_73 7 rfl ?_
  refine k_aload_n C dX5_two_75 0 rfl rfl ?_
  refine k_get C (C0 := RX5) (T := TX5) (N := 26) (fun w h => List.mem_cons_of_mem _ (us_R w h)) 0 rfl rfl 4 (by decide) (List.mem_cons_of_mem _ wq_547) rfl rfl dX5_two_76 ?_
  refine k_icmp_ge C (tgt := 215) dX5_two_79 (by decide) (fun c_79 => ?_) (fun c_79 => ?_)
  · have h := ifT c_79 h
    refine k_lv (lv' := [(4, .int v4), (6, .int v6), (7, .int v7)]) [4, 5, 6] rfl ?_
    exact k0 _ (Option.some.inj h).symm
  · have h := ifF c_79 h
    refine k_iconst C (v := (0 : Int32)) dX5_two_82 (by decide) ?_
    refine k_istore C (lv' := [(9, .int (0 : Int32)), (0, .ref a_this), (1, .int v1), (2, .int v2), (3, .int v3), (4, .int v4), (6, .int v6), (7, .int v7), (8, .int v8)]) dX5_two_83 (by decide) rfl ?_
    obtain ⟨x11, hx11, h⟩ := bindE h
    refine k_lv (lv' := [(0, .ref a_this), (1, .int v1), (2, .int v2), (3, .int v3), (4, .int v4), (6, .int v6), (7, .int v7), (8, .int v8), (9, .int (0 : Int32))]) [1, 2, 3, 4, 5, 6, 7, 8, 0] rfl ?_
    refine s_R_two_l85 C hx11 ?_
    refine k_iinc C (v := (v8 + (1 : Int32))) (lv' := [(8, .int (v8 + (1 : Int32))), (0, .ref a_this), (1, .int v1), (2, .int v2), (3, .int v3), (4, .int v4), (6, .int x11.1), (7, .int x11.2)]) dX5_two_209 7 rfl rfl (by decide) rfl ?_
    refine k_goto C (tgt := 73) dX5_two_212 (by decide) ?_
    refine k_lv (lv' := [(0, .ref a_this), (1, .int v1), (2, .int v2), (3, .int v3), (4, .int v4), (6, .int x11.1), (7, .int x11.2), (8, .int (v8 + (1 : Int32)))]) [1, 2, 3, 4, 5, 6, 7, 0] rfl ?_
    exact kc _ (Option.some.inj h).symm
set_option maxRecDepth 100000 in
set_option maxHeartbeats 4000000 in
theorem s_R_two_l73 (C : kC p l e rm_R_two s m args below meth c D (tyG cI cL cZ) A 12 cX5_two yX5_two.cls (Cond.code yX5_two cX5_two 12 (some .int) :: WS) (some .int)) {a_this : Nat} {a_gravel : Nat} {a_kind : Nat} {a_own : Nat} {a_likely : Nat} {a_tape : Nat} {a_holding : Nat} {a_rowLength : Nat} {a_rowOf : Nat} {a_refusals : Nat} {a_old : Nat} {a_ahead : Nat} {a_cost : Nat} {a_may : Nat} {a_rest : Nat} {a_way : Nat} {v1 : Int32} {v2 : Int32} {v3 : Int32} {v4 : Int32} {v6 : Int32} {v7 : Int32} {v8 : Int32} {c_n : Int32} {c_rain : Int32} {c_ear : Int32} {c_many : Int32} {c_seed : Int32} {c_taped : Int32} {c_from : Int32} {c_to : Int32} {c_token : Int32} {c_value : Int32} {c_imaged : Int32} {c_gravel : (Nat → Int32)} {c_kind : (Nat → Int32)} {c_own : (Nat → Int32)} {c_holding : (Nat → Int32)} {c_rowLength : (Nat → Int32)} {c_rowOf : (Nat → Int64)} {c_refusals : (Nat → Int32)} {x : (Int32 × Int32)} (h : f_R_two_l73 v1 v2 v3 c_n c_rain c_many c_gravel c_kind c_own c_rowOf v6 v7 v8 = some x)
    (k0 : kW p l e rm_R_two s m args below meth c D A 12 (cells_R_two cI cL cZ a_this a_gravel a_kind a_own a_likely a_tape a_holding a_rowLength a_rowOf a_refusals a_old a_ahead a_cost a_may a_rest a_way c_n c_rain c_ear c_many c_seed c_taped c_from c_to c_token c_value c_imaged c_gravel c_kind c_own c_holding c_rowLength c_rowOf c_refusals) [(4, .int v4), (6, .int x.1), (7, .int x.2)] Q 215 []) :
    kW p l e rm_R_two s m args below meth c D A 12 (cells_R_two cI cL cZ a_this a_gravel a_kind a_own a_likely a_tape a_holding a_rowLength a_rowOf a_refusals a_old a_ahead a_cost a_may a_rest a_way c_n c_rain c_ear c_many c_seed c_taped c_from c_to c_token c_value c_imaged c_gravel c_kind c_own c_holding c_rowLength c_rowOf c_refusals) [(0, .ref a_this), (1, .int v1), (2, .int v2), (3, .int v3), (4, .int v4), (6, .int v6), (7, .int v7), (8, .int v8)] Q 73 [] := by
  unfold f_R_two_l73 at h
  exact iter_W (body := fun s => f_R_two_b73 v1 v2 v3 c_n c_rain c_many c_gravel c_kind c_own c_rowOf s.1 s.2.1 s.2.2) (r := x) (T := fun sg => kW p l e rm_R_two s m args below meth c D A 12 (cells_R_two cI cL cZ a_this a_gravel a_kind a_own a_likely a_tape a_holding a_rowLength a_rowOf a_refusals a_old a_ahead a_cost a_may a_rest a_way c_n c_rain c_ear c_many c_seed c_taped c_from c_to c_token c_value c_imaged c_gravel c_kind c_own c_holding c_rowLength c_rowOf c_refusals) [(0, .ref a_this), (1, .int v1), (2, .int v2), (3, .int v3), (4, .int v4), (6, .int sg.1), (7, .int sg.2.1), (8, .int sg.2.2)] Q 73 []) (fun sg y hy hc _ hr => s_R_two_b73 C (v1 := v1) (v2 := v2) (v3 := v3) (v4 := v4) (v6 := sg.1) (v7 := sg.2.1) (v8 := sg.2.2) (c_n := c_n) (c_rain := c_rain) (c_ear := c_ear) (c_many := c_many) (c_seed := c_seed) (c_taped := c_taped) (c_from := c_from) (c_to := c_to) (c_token := c_token) (c_value := c_value) (c_imaged := c_imaged) (c_gravel := c_gravel) (c_kind := c_kind) (c_own := c_own) (c_holding := c_holding) (c_rowLength := c_rowLength) (c_rowOf := c_rowOf) (c_refusals := c_refusals) (x := y) hy hc (fun r e => by rw [hr r e]; exact k0)) FUEL (v6, v7, v8) h
set_option maxRecDepth 100000 in
set_option maxHeartbeats 4000000 in
theorem s_R_two (C : kC p l e rm_R_two s m args below meth c D (tyG cI cL cZ) A 12 cX5_two yX5_two.cls (Cond.code yX5_two cX5_two 12 (some .int) :: WS) (some .int)) {a_this : Nat} {a_gravel : Nat} {a_kind : Nat} {a_own : Nat} {a_likely : Nat} {a_tape : Nat} {a_holding : Nat} {a_rowLength : Nat} {a_rowOf : Nat} {a_refusals : Nat} {a_old : Nat} {a_ahead : Nat} {a_cost : Nat} {a_may : Nat} {a_rest : Nat} {a_way : Nat} {v1 : Int32} {v2 : Int32} {v3 : Int32} {v4 : Int32} {c_n : Int32} {c_rain : Int32} {c_ear : Int32} {c_many : Int32} {c_seed : Int32} {c_taped : Int32} {c_from : Int32} {c_to : Int32} {c_token : Int32} {c_value : Int32} {c_imaged : Int32} {c_gravel : (Nat → Int32)} {c_kind : (Nat → Int32)} {c_own : (Nat → Int32)} {c_holding : (Nat → Int32)} {c_rowLength : (Nat → Int32)} {c_rowOf : (Nat → Int64)} {c_refusals : (Nat → Int32)} {x : (Int32 × (Nat → Int32))} (h : f_R_two v1 v2 v3 v4 c_n c_rain c_many c_gravel c_kind c_own c_holding c_rowLength c_rowOf c_refusals = some x) :
    kW p l e rm_R_two s m args below meth c D A 12 (cells_R_two cI cL cZ a_this a_gravel a_kind a_own a_likely a_tape a_holding a_rowLength a_rowOf a_refusals a_old a_ahead a_cost a_may a_rest a_way c_n c_rain c_ear c_many c_seed c_taped c_from c_to c_token c_value c_imaged c_gravel c_kind c_own c_holding c_rowLength c_rowOf c_refusals) [(0, .ref a_this), (1, .int v1), (2, .int v2), (3, .int v3), (4, .int v4)] (MQ below (kQi D A (cells_R_two cI cL cZ a_this a_gravel a_kind a_own a_likely a_tape a_holding a_rowLength a_rowOf a_refusals a_old a_ahead a_cost a_may a_rest a_way c_n c_rain c_ear c_many c_seed c_taped c_from c_to c_token c_value c_imaged c_gravel c_kind c_own c_holding c_rowLength c_rowOf x.2) x.1) args s 0 0 A) 0 [] := by
  unfold f_R_two at h
  refine k_iload_n C dX5_two_0 1 rfl rfl ?_
  obtain ⟨x1, hx1, h⟩ := bindE h
  refine kcallE_i C (r := x1) (fun H locs ls hP hD hS hF hz => krunS C (c_R_isShelf l D cI cL cZ H.size v1 x1 hx1) (va_cwS 1 C.2.2.2.2.1 (gS wq_555 wq_556 wq_551 wq_554) rfl rfl rfl (by decide +kernel) ⟨(Nat.le_of_ble_eq_true rfl), (Nat.le_of_ble_eq_true rfl)⟩) kEnv_T rfl rfl (Nat.le_of_ble_eq_true rfl) dX5_two_1 hP hD hz) ?_
  refine k_if_eq C (tgt := 38) dX5_two_4 (by decide) (fun c_4 => ?_) (fun c_4 => ?_)
  · have h := ifT c_4 h
    refine k_lv (lv' := [(0, .ref a_this)]) [0] rfl ?_
    exact s_R_two_j38 C h
  · have h := ifF c_4 h
    refine k_aload_n C dX5_two_7 0 rfl rfl ?_
    refine k_iload_n C dX5_two_8 2 rfl rfl ?_
    obtain ⟨x3, hx3, h⟩ := bindE h
    refine kcallR_i C (wc := (cells_R_isColumn cI cL cZ a_this a_gravel a_kind a_own a_likely a_tape a_holding a_rowLength a_rowOf a_refusals a_old a_ahead a_cost a_may a_rest a_way c_n c_rain c_ear c_many c_seed c_taped c_from c_to c_token c_value c_imaged)) (r := x3) [0] (fun H locs ls hP hD hS hF hz => krunV C (q0 := 0) (ci := 5) (c_R_isColumn l D cI cL cZ H.size a_this a_gravel a_kind a_own a_likely a_tape a_holding a_rowLength a_rowOf a_refusals a_old a_ahead a_cost a_may a_rest a_way v2 c_n c_rain c_ear c_many c_seed c_taped c_from c_to c_token c_value c_imaged x3 hx3) (cwV 1 C.2.2.2.2.1 (gV wq_728 wq_729 wq_730 wq_551 wq_727) rfl rfl rfl (by decide +kernel) ⟨(Nat.le_of_ble_eq_true rfl), (Nat.le_of_ble_eq_true rfl)⟩) rfl rfl kEnv_T rfl rfl (Nat.le_of_ble_eq_true rfl) dX5_two_9 hP hD hz) rfl (by decide) ?_
    refine k_if_eq C (tgt := 38) dX5_two_12 (by decide) (fun c_12 => ?_) (fun c_12 => ?_)
    · have h := ifT c_12 h
      refine k_lv (lv' := [(0, .ref a_this)]) [0] rfl ?_
      exact s_R_two_j38 C h
    · have h := ifF c_12 h
      refine k_aload_n C dX5_two_15 0 rfl rfl ?_
      refine k_iload_n C dX5_two_16 3 rfl rfl ?_
      obtain ⟨x4, hx4, h⟩ := bindE h
      refine kcallR_i C (wc := (cells_R_isColumn cI cL cZ a_this a_gravel a_kind a_own a_likely a_tape a_holding a_rowLength a_rowOf a_refusals a_old a_ahead a_cost a_may a_rest a_way c_n c_rain c_ear c_many c_seed c_taped c_from c_to c_token c_value c_imaged)) (r := x4) [0] (fun H locs ls hP hD hS hF hz => krunV C (q0 := 0) (ci := 5) (c_R_isColumn l D cI cL cZ H.size a_this a_gravel a_kind a_own a_likely a_tape a_holding a_rowLength a_rowOf a_refusals a_old a_ahead a_cost a_may a_rest a_way v3 c_n c_rain c_ear c_many c_seed c_taped c_from c_to c_token c_value c_imaged x4 hx4) (cwV 1 C.2.2.2.2.1 (gV wq_728 wq_729 wq_730 wq_551 wq_727) rfl rfl rfl (by decide +kernel) ⟨(Nat.le_of_ble_eq_true rfl), (Nat.le_of_ble_eq_true rfl)⟩) rfl rfl kEnv_T rfl rfl (Nat.le_of_ble_eq_true rfl) dX5_two_17 hP hD hz) rfl (by decide) ?_
      refine k_if_eq C (tgt := 38) dX5_two_20 (by decide) (fun c_20 => ?_) (fun c_20 => ?_)
      · have h := ifT c_20 h
        refine k_lv (lv' := [(0, .ref a_this)]) [0] rfl ?_
        exact s_R_two_j38 C h
      · have h := ifF c_20 h
        refine k_iload C dX5_two_23 4 rfl ?_
        refine k_iconst C (v := (0 : Int32)) dX5_two_25 (by decide) ?_
        refine k_iconst C (v := (1 : Int32)) dX5_two_26 (by decide) ?_
        obtain ⟨x5, hx5, h⟩ := bindE h
        refine kcallE_i C (r := x5) (fun H locs ls hP hD hS hF hz => krunS C (c_R_within l D cI cL cZ H.size v4 (0 : Int32) (1 : Int32) x5 hx5) (va_cwS 3 C.2.2.2.2.1 (gS wq_549 wq_550 wq_551 wq_548) rfl rfl rfl (by decide +kernel) ⟨(Nat.le_of_ble_eq_true rfl), (Nat.le_of_ble_eq_true rfl)⟩) kEnv_T rfl rfl (Nat.le_of_ble_eq_true rfl) dX5_two_27 hP hD hz) ?_
        refine k_if_eq C (tgt := 38) dX5_two_30 (by decide) (fun c_30 => ?_) (fun c_30 => ?_)
        · have h := ifT c_30 h
          refine k_lv (lv' := [(0, .ref a_this)]) [0] rfl ?_
          exact s_R_two_j38 C h
        · have h := ifF c_30 h
          refine k_iload_n C dX5_two_33 2 rfl rfl ?_
          refine k_iload_n C dX5_two_34 3 rfl rfl ?_
          refine k_icmp_ne C (tgt := 45) dX5_two_35 (by decide) (fun c_35 => ?_) (fun c_35 => ?_)
          · have h := ifF c_35 h
            refine k_aload_n C dX5_two_45 0 rfl rfl ?_
            refine k_iload_n C dX5_two_46 1 rfl rfl ?_
            obtain ⟨x6, hx6, h⟩ := bindE h
            refine kcallR_i C (wc := (cells_R_noHeard cI cL cZ a_this a_gravel a_kind a_own a_likely a_tape a_holding a_rowLength a_rowOf a_refusals a_old a_ahead a_cost a_may a_rest a_way c_n c_rain c_ear c_many c_seed c_taped c_from c_to c_token c_value c_imaged c_holding c_rowLength)) (r := x6) [0, 4, 5] (fun H locs ls hP hD hS hF hz => krunV C (q0 := 0) (ci := 5) (c_R_noHeard l D cI cL cZ H.size a_this a_gravel a_kind a_own a_likely a_tape a_holding a_rowLength a_rowOf a_refusals a_old a_ahead a_cost a_may a_rest a_way v1 c_n c_rain c_ear c_many c_seed c_taped c_from c_to c_token c_value c_imaged c_holding c_rowLength x6 hx6) (cwV 1 C.2.2.2.2.1 (gV wq_752 wq_753 wq_754 wq_551 wq_751) rfl rfl rfl (by decide +kernel) ⟨(Nat.le_of_ble_eq_true rfl), (Nat.le_of_ble_eq_true rfl)⟩) rfl rfl kEnv_T rfl rfl (Nat.le_of_ble_eq_true rfl) dX5_two_47 hP hD hz) rfl (by decide) ?_
            refine k_istore C (lv' := [(5, .int x6), (0, .ref a_this), (1, .int v1), (2, .int v2), (3, .int v3), (4, .int v4)]) dX5_two_50 (by decide) rfl ?_
            refine k_iload C dX5_two_52 0 rfl ?_
            refine k_if_ge C (tgt := 64) dX5_two_54 (by decide) (fun c_54 => ?_) (fun c_54 => ?_)
            · have h := ifT c_54 h
              refine k_iconst C (v := (0 : Int32)) dX5_two_64 (by decide) ?_
              refine k_istore C (lv' := [(6, .int (0 : Int32)), (5, .int x6), (0, .ref a_this), (1, .int v1), (2, .int v2), (3, .int v3), (4, .int v4)]) dX5_two_65 (by decide) rfl ?_
              refine k_iconst C (v := (-1 : Int32)) dX5_two_67 (by decide) ?_
              refine k_istore C (lv' := [(7, .int (-1 : Int32)), (6, .int (0 : Int32)), (5, .int x6), (0, .ref a_this), (1, .int v1), (2, .int v2), (3, .int v3), (4, .int v4)]) dX5_two_68 (by decide) rfl ?_
              refine k_iconst C (v := (0 : Int32)) dX5_two_70 (by decide) ?_
              refine k_istore C (lv' := [(8, .int (0 : Int32)), (7, .int (-1 : Int32)), (6, .int (0 : Int32)), (5, .int x6), (0, .ref a_this), (1, .int v1), (2, .int v2), (3, .int v3), (4, .int v4)]) dX5_two_71 (by decide) rfl ?_
              obtain ⟨x12, hx12, h⟩ := bindE h
              refine k_lv (lv' := [(0, .ref a_this), (1, .int v1), (2, .int v2), (3, .int v3), (4, .int v4), (6, .int (0 : Int32)), (7, .int (-1 : Int32)), (8, .int (0 : Int32))]) [4, 5, 6, 7, 8, 2, 1, 0] rfl ?_
              refine s_R_two_l73 C hx12 ?_
              refine k_iload C dX5_two_215 0 rfl ?_
              refine k_if_ne C (tgt := 225) dX5_two_217 (by decide) (fun c_217 => ?_) (fun c_217 => ?_)
              · have h := ifF c_217 h
                refine k_iload C dX5_two_225 2 rfl ?_
                obtain rfl := Option.some.inj h
                exact kret_i C rfl dX5_two_227
              · have h := ifT c_217 h
                refine k_iload C dX5_two_220 1 rfl ?_
                refine k_goto C (tgt := 227) dX5_two_222 (by decide) ?_
                obtain rfl := Option.some.inj h
                exact kret_i C rfl dX5_two_227
            · have h := ifF c_54 h
              refine k_aload_n C dX5_two_57 1 rfl rfl ?_
              refine k_iload C dX5_two_58 0 rfl ?_
              obtain ⟨x13, hx13, h⟩ := bindE h
              refine kcallU_i C (wc := (cells_R_no cI cL cZ a_this a_gravel a_kind a_own a_likely a_tape a_holding a_rowLength a_rowOf a_refusals a_old a_ahead a_cost a_may a_rest a_way c_n c_rain c_ear c_many c_seed c_taped c_from c_to c_token c_value c_imaged c_refusals)) (w1 := (cells_R_no cI cL cZ a_this a_gravel a_kind a_own a_likely a_tape a_holding a_rowLength a_rowOf a_refusals a_old a_ahead a_cost a_may a_rest a_way c_n c_rain c_ear c_many c_seed c_taped c_from c_to c_token c_value c_imaged x13.2)) (ws' := (cells_R_two cI cL cZ a_this a_gravel a_kind a_own a_likely a_tape a_holding a_rowLength a_rowOf a_refusals a_old a_ahead a_cost a_may a_rest a_way c_n c_rain c_ear c_many c_seed c_taped c_from c_to c_token c_value c_imaged c_gravel c_kind c_own c_holding c_rowLength c_rowOf x13.2)) (r := x13.1) [0, 7] (fun H locs ls hP hD hS hF hz => krunV C (q0 := 0) (ci := 5) (c_R_no l D cI cL cZ H.size a_this a_gravel a_kind a_own a_likely a_tape a_holding a_rowLength a_rowOf a_refusals a_old a_ahead a_cost a_may a_rest a_way x6 c_n c_rain c_ear c_many c_seed c_taped c_from c_to c_token c_value c_imaged c_refusals x13 hx13) (cwV 1 C.2.2.2.2.1 (gV wq_558 wq_559 wq_560 wq_551 wq_557) rfl rfl rfl (by decide +kernel) ⟨(Nat.le_of_ble_eq_true rfl), (Nat.le_of_ble_eq_true rfl)⟩) rfl rfl kEnv_T rfl rfl (Nat.le_of_ble_eq_true rfl) dX5_two_60 hP hD hz) rfl (by decide) rfl rfl ?_
              obtain rfl := Option.some.inj h
              exact kret_i C rfl dX5_two_63
          · have h := ifT c_35 h
            refine k_lv (lv' := [(0, .ref a_this)]) [0] rfl ?_
            exact s_R_two_j38 C h
theorem c_R_two (l : Launch) (D : va_G) (cI : ClassId) (cL : ClassId) (cZ : ClassId) (sz : Nat) (a_this : Nat) (a_gravel : Nat) (a_kind : Nat) (a_own : Nat) (a_likely : Nat) (a_tape : Nat) (a_holding : Nat) (a_rowLength : Nat) (a_rowOf : Nat) (a_refusals : Nat) (a_old : Nat) (a_ahead : Nat) (a_cost : Nat) (a_may : Nat) (a_rest : Nat) (a_way : Nat) (v1 : Int32) (v2 : Int32) (v3 : Int32) (v4 : Int32) (c_n : Int32) (c_rain : Int32) (c_ear : Int32) (c_many : Int32) (c_seed : Int32) (c_taped : Int32) (c_from : Int32) (c_to : Int32) (c_token : Int32) (c_value : Int32) (c_imaged : Int32) (c_gravel : (Nat → Int32)) (c_kind : (Nat → Int32)) (c_own : (Nat → Int32)) (c_holding : (Nat → Int32)) (c_rowLength : (Nat → Int32)) (c_rowOf : (Nat → Int64)) (c_refusals : (Nat → Int32)) (x : (Int32 × (Nat → Int32))) (h : f_R_two v1 v2 v3 v4 c_n c_rain c_many c_gravel c_kind c_own c_holding c_rowLength c_rowOf c_refusals = some x) :
    Met l yX5_two (Cond.code yX5_two cX5_two 12 (some .int) :: WS) rm_R_two (kP D (tyG cI cL cZ) kTrue [.ref a_this, .int v1, .int v2, .int v3, .int v4] sz (cells_R_two cI cL cZ a_this a_gravel a_kind a_own a_likely a_tape a_holding a_rowLength a_rowOf a_refusals a_old a_ahead a_cost a_may a_rest a_way c_n c_rain c_ear c_many c_seed c_taped c_from c_to c_token c_value c_imaged c_gravel c_kind c_own c_holding c_rowLength c_rowOf c_refusals)) (kQi D (va_A (cells_R_two cI cL cZ a_this a_gravel a_kind a_own a_likely a_tape a_holding a_rowLength a_rowOf a_refusals a_old a_ahead a_cost a_may a_rest a_way c_n c_rain c_ear c_many c_seed c_taped c_from c_to c_token c_value c_imaged c_gravel c_kind c_own c_holding c_rowLength c_rowOf c_refusals) sz) (cells_R_two cI cL cZ a_this a_gravel a_kind a_own a_likely a_tape a_holding a_rowLength a_rowOf a_refusals a_old a_ahead a_cost a_may a_rest a_way c_n c_rain c_ear c_many c_seed c_taped c_from c_to c_token c_value c_imaged c_gravel c_kind c_own c_holding c_rowLength c_rowOf x.2) x.1) 0 0 (va_A (cells_R_two cI cL cZ a_this a_gravel a_kind a_own a_likely a_tape a_holding a_rowLength a_rowOf a_refusals a_old a_ahead a_cost a_may a_rest a_way c_n c_rain c_ear c_many c_seed c_taped c_from c_to c_token c_value c_imaged c_gravel c_kind c_own c_holding c_rowLength c_rowOf c_refusals) sz) :=
  kmet (by decide) (Nat.le_of_ble_eq_true rfl) rfl (fun p e s m below meth c C hE => s_R_two C h)
abbrev cells_R_meant (cI : ClassId) (cL : ClassId) (cZ : ClassId) (a_this : Nat) (a_gravel : Nat) (a_kind : Nat) (a_own : Nat) (a_likely : Nat) (a_tape : Nat) (a_holding : Nat) (a_rowLength : Nat) (a_rowOf : Nat) (a_refusals : Nat) (a_old : Nat) (a_ahead : Nat) (a_cost : Nat) (a_may : Nat) (a_rest : Nat) (a_way : Nat) (c_n : Int32) (c_rain : Int32) (c_ear : Int32) (c_many : Int32) (c_seed : Int32) (c_taped : Int32) (c_from : Int32) (c_to : Int32) (c_token : Int32) (c_value : Int32) (c_imaged : Int32) (c_gravel : (Nat → Int32)) (c_kind : (Nat → Int32)) (c_own : (Nat → Int32)) (c_holding : (Nat → Int32)) (c_rowLength : (Nat → Int32)) (c_rowOf : (Nat → Int64)) (c_refusals : (Nat → Int32)) : va_W := [(a_this, .inr (5, [.int c_n, .ref a_gravel, .int c_rain, .int c_ear, .int c_many, .ref a_kind, .ref a_own, .ref a_likely, .int c_seed, .int c_taped, .ref a_tape, .int c_from, .int c_to, .int c_token, .int c_value, .ref a_holding, .ref a_rowLength, .ref a_rowOf, .ref a_refusals, .int c_imaged, .ref a_old, .ref a_ahead, .ref a_cost, .ref a_may, .ref a_rest, .ref a_way])), (a_gravel, .inl (cI, 36, .inl c_gravel)), (a_kind, .inl (cI, 8, .inl c_kind)), (a_own, .inl (cI, 8, .inl c_own)), (a_holding, .inl (cI, 8, .inl c_holding)), (a_rowLength, .inl (cI, 8, .inl c_rowLength)), (a_rowOf, .inl (cL, 320, .inr (.inl c_rowOf))), (a_refusals, .inl (cI, 7, .inl c_refusals))]
abbrev rm_R_meant : Room := { frames := 4, cells := 0, slots := 0, locals := 102 }
set_option maxRecDepth 100000 in
set_option maxHeartbeats 4000000 in
theorem s_R_meant_j33 (C : kC p l e rm_R_meant s m args below meth c D (tyG cI cL cZ) A 11 cX5_meant yX5_meant.cls (Cond.code yX5_meant cX5_meant 11 (some .int) :: WS) (some .int)) {a_this : Nat} {a_gravel : Nat} {a_kind : Nat} {a_own : Nat} {a_likely : Nat} {a_tape : Nat} {a_holding : Nat} {a_rowLength : Nat} {a_rowOf : Nat} {a_refusals : Nat} {a_old : Nat} {a_ahead : Nat} {a_cost : Nat} {a_may : Nat} {a_rest : Nat} {a_way : Nat} {c_n : Int32} {c_rain : Int32} {c_ear : Int32} {c_many : Int32} {c_seed : Int32} {c_taped : Int32} {c_from : Int32} {c_to : Int32} {c_token : Int32} {c_value : Int32} {c_imaged : Int32} {c_gravel : (Nat → Int32)} {c_kind : (Nat → Int32)} {c_own : (Nat → Int32)} {c_holding : (Nat → Int32)} {c_rowLength : (Nat → Int32)} {c_rowOf : (Nat → Int64)} {c_refusals : (Nat → Int32)} {x : (Int32 × (Nat → Int32) × (Nat → Int32) × (Nat → Int32))} (h : f_R_meant_j33 c_kind c_own c_refusals = some x) :
    kW p l e rm_R_meant s m args below meth c D A 11 (cells_R_meant cI cL cZ a_this a_gravel a_kind a_own a_likely a_tape a_holding a_rowLength a_rowOf a_refusals a_old a_ahead a_cost a_may a_rest a_way c_n c_rain c_ear c_many c_seed c_taped c_from c_to c_token c_value c_imaged c_gravel c_kind c_own c_holding c_rowLength c_rowOf c_refusals) [(0, .ref a_this)] (MQ below (kQi D A (cells_R_meant cI cL cZ a_this a_gravel a_kind a_own a_likely a_tape a_holding a_rowLength a_rowOf a_refusals a_old a_ahead a_cost a_may a_rest a_way c_n c_rain c_ear c_many c_seed c_taped c_from c_to c_token c_value c_imaged c_gravel x.2.1 x.2.2.1 c_holding c_rowLength c_rowOf x.2.2.2) x.1) args s 0 0 A) 33 [] := by
  unfold f_R_meant_j33 at h
  refine k_aload_n C dX5_meant_33 0 rfl rfl ?_
  refine k_bipush C (v := (-2 : Int32)) dX5_meant_34 (by decide) ?_
  obtain ⟨x2, hx2, h⟩ := bindE h
  refine kcallU_i C (wc := (cells_R_no cI cL cZ a_this a_gravel a_kind a_own a_likely a_tape a_holding a_rowLength a_rowOf a_refusals a_old a_ahead a_cost a_may a_rest a_way c_n c_rain c_ear c_many c_seed c_taped c_from c_to c_token c_value c_imaged c_refusals)) (w1 := (cells_R_no cI cL cZ a_this a_gravel a_kind a_own a_likely a_tape a_holding a_rowLength a_rowOf a_refusals a_old a_ahead a_cost a_may a_rest a_way c_n c_rain c_ear c_many c_seed c_taped c_from c_to c_token c_value c_imaged x2.2)) (ws' := (cells_R_meant cI cL cZ a_this a_gravel a_kind a_own a_likely a_tape a_holding a_rowLength a_rowOf a_refusals a_old a_ahead a_cost a_may a_rest a_way c_n c_rain c_ear c_many c_seed c_taped c_from c_to c_token c_value c_imaged c_gravel c_kind c_own c_holding c_rowLength c_rowOf x2.2)) (r := x2.1) [0, 7] (fun H locs ls hP hD hS hF hz => krunV C (q0 := 0) (ci := 5) (c_R_no l D cI cL cZ H.size a_this a_gravel a_kind a_own a_likely a_tape a_holding a_rowLength a_rowOf a_refusals a_old a_ahead a_cost a_may a_rest a_way (-2 : Int32) c_n c_rain c_ear c_many c_seed c_taped c_from c_to c_token c_value c_imaged c_refusals x2 hx2) (cwV 1 C.2.2.2.2.1 (gV wq_558 wq_559 wq_560 wq_551 wq_557) rfl rfl rfl (by decide +kernel) ⟨(Nat.le_of_ble_eq_true rfl), (Nat.le_of_ble_eq_true rfl)⟩) rfl rfl kEnv_T rfl rfl (Nat.le_of_ble_eq_true rfl) dX5_meant_36 hP hD hz) rfl (by decide) rfl rfl ?_
  obtain rfl := Option.some.inj h
  exact kret_i C rfl dX5_meant_39
set_option maxRecDepth 100000 in
set_option maxHeartbeats 4000000 in
theorem s_R_meant_b84 (C : kC p l e rm_R_meant s m args below meth c D (tyG cI cL cZ) A 11 cX5_meant yX5_meant.cls (Cond.code yX5_meant cX5_meant 11 (some .int) :: WS) (some .int)) {a_this : Nat} {a_gravel : Nat} {a_kind : Nat} {a_own : Nat} {a_likely : Nat} {a_tape : Nat} {a_holding : Nat} {a_rowLength : Nat} {a_rowOf : Nat} {a_refusals : Nat} {a_old : Nat} {a_ahead : Nat} {a_cost : Nat} {a_may : Nat} {a_rest : Nat} {a_way : Nat} {v1 : Int32} {v2 : Int32} {v3 : Int32} {v4 : Int32} {v6 : Int32} {v7 : Int32} {v8 : Int32} {v9 : Int32} {v10 : Int32} {c_n : Int32} {c_rain : Int32} {c_ear : Int32} {c_many : Int32} {c_seed : Int32} {c_taped : Int32} {c_from : Int32} {c_to : Int32} {c_token : Int32} {c_value : Int32} {c_imaged : Int32} {c_gravel : (Nat → Int32)} {c_kind : (Nat → Int32)} {c_own : (Nat → Int32)} {c_holding : (Nat → Int32)} {c_rowLength : (Nat → Int32)} {c_rowOf : (Nat → Int64)} {c_refusals : (Nat → Int32)} {x : ((Int32 × Int32 × (Nat → Int32)) ⊕ (Int32 × (Nat → Int32)))} (h : f_R_meant_b84 v1 v2 v3 c_n c_rain c_gravel c_own c_rowOf v8 v10 c_kind = some x)
    (kc : ∀ s', x = .inl s' → kW p l e rm_R_meant s m args below meth c D A 11 (cells_R_meant cI cL cZ a_this a_gravel a_kind a_own a_likely a_tape a_holding a_rowLength a_rowOf a_refusals a_old a_ahead a_cost a_may a_rest a_way c_n c_rain c_ear c_many c_seed c_taped c_from c_to c_token c_value c_imaged c_gravel s'.2.2 c_own c_holding c_rowLength c_rowOf c_refusals) [(0, .ref a_this), (1, .int v1), (2, .int v2), (3, .int v3), (4, .int v4), (6, .int v6), (7, .int v7), (8, .int s'.1), (9, .int v9), (10, .int s'.2.1)] Q 84 [])
    (k0 : ∀ r, x = .inr r → kW p l e rm_R_meant s m args below meth c D A 11 (cells_R_meant cI cL cZ a_this a_gravel a_kind a_own a_likely a_tape a_holding a_rowLength a_rowOf a_refusals a_old a_ahead a_cost a_may a_rest a_way c_n c_rain c_ear c_many c_seed c_taped c_from c_to c_token c_value c_imaged c_gravel r.2 c_own c_holding c_rowLength c_rowOf c_refusals) [(0, .ref a_this), (1, .int v1), (2, .int v2), (3, .int v3), (4, .int v4), (6, .int v6), (7, .int v7), (8, .int r.1), (9, .int v9)] Q 128 []) :
    kW p l e rm_R_meant s m args below meth c D A 11 (cells_R_meant cI cL cZ a_this a_gravel a_kind a_own a_likely a_tape a_holding a_rowLength a_rowOf a_refusals a_old a_ahead a_cost a_may a_rest a_way c_n c_rain c_ear c_many c_seed c_taped c_from c_to c_token c_value c_imaged c_gravel c_kind c_own c_holding c_rowLength c_rowOf c_refusals) [(0, .ref a_this), (1, .int v1), (2, .int v2), (3, .int v3), (4, .int v4), (6, .int v6), (7, .int v7), (8, .int v8), (9, .int v9), (10, .int v10)] Q 84 [] := by
  unfold f_R_meant_b84 at h
  refine k_iload C dX5_meant_84 9 rfl ?_
  refine k_bipush C (v := (6 : Int32)) dX5_meant_86 (by decide) ?_
  refine k_icmp_ge C (tgt := 128) dX5_meant_88 (by decide) (fun c_88 => ?_) (fun c_88 => ?_)
  · have h := ifT c_88 h
    refine k_lv (lv' := [(0, .ref a_this), (1, .int v1), (2, .int v2), (3, .int v3), (4, .int v4), (6, .int v6), (7, .int v7), (8, .int v8), (9, .int v9)]) [0, 1, 2, 3, 4, 5, 6, 7, 8] rfl ?_
    exact k0 _ (Option.some.inj h).symm
  · have h := ifF c_88 h
    refine k_aload_n C dX5_meant_91 0 rfl rfl ?_
    refine k_get C (C0 := RX5) (T := TX5) (N := 26) (fun w h => List.mem_cons_of_mem _ (us_R w h)) 0 rfl rfl 5 (by decide) (List.mem_cons_of_mem _ wq_586) rfl rfl dX5_meant_92 ?_
    refine k_iload_n C dX5_meant_95 2 rfl rfl ?_
    refine k_iload C dX5_meant_96 9 rfl ?_
    obtain ⟨x9, hx9, h⟩ := bindE h
    refine k_iast C 2 0 (ws' := (cells_R_meant cI cL cZ a_this a_gravel a_kind a_own a_likely a_tape a_holding a_rowLength a_rowOf a_refusals a_old a_ahead a_cost a_may a_rest a_way c_n c_rain c_ear c_many c_seed c_taped c_from c_to c_token c_value c_imaged c_gravel x9 c_own c_holding c_rowLength c_rowOf c_refusals)) rfl rfl hx9 rfl dX5_meant_98 ?_
    refine k_aload_n C dX5_meant_99 0 rfl rfl ?_
    refine k_iload_n C dX5_meant_100 1 rfl rfl ?_
    refine k_iload_n C dX5_meant_101 2 rfl rfl ?_
    refine k_iload_n C dX5_meant_102 3 rfl rfl ?_
    obtain ⟨x10, hx10, h⟩ := bindE h
    refine kcallR_i C (wc := (cells_R_fits cI cL cZ a_this a_gravel a_kind a_own a_likely a_tape a_holding a_rowLength a_rowOf a_refusals a_old a_ahead a_cost a_may a_rest a_way c_n c_rain c_ear c_many c_seed c_taped c_from c_to c_token c_value c_imaged c_gravel x9 c_own c_rowOf)) (r := x10) [0, 1, 2, 3, 6] (fun H locs ls hP hD hS hF hz => krunV C (q0 := 0) (ci := 5) (c_R_fits l D cI cL cZ H.size a_this a_gravel a_kind a_own a_likely a_tape a_holding a_rowLength a_rowOf a_refusals a_old a_ahead a_cost a_may a_rest a_way v1 v2 v3 c_n c_rain c_ear c_many c_seed c_taped c_from c_to c_token c_value c_imaged c_gravel x9 c_own c_rowOf x10 hx10) (cwV 3 C.2.2.2.2.1 (gV wq_748 wq_749 wq_750 wq_551 wq_747) rfl rfl rfl (by decide +kernel) ⟨(Nat.le_of_ble_eq_true rfl), (Nat.le_of_ble_eq_true rfl)⟩) rfl rfl kEnv_T rfl rfl (Nat.le_of_ble_eq_true rfl) dX5_meant_103 hP hD hz) rfl (by decide) ?_
    refine k_aload_n C dX5_meant_106 0 rfl rfl ?_
    refine k_get C (C0 := RX5) (T := TX5) (N := 26) (fun w h => List.mem_cons_of_mem _ (us_R w h)) 0 rfl rfl 0 (by decide) (List.mem_cons_of_mem _ wq_552) rfl rfl dX5_meant_107 ?_
    refine k_icmp_ne C (tgt := 122) dX5_meant_110 (by decide) (fun c_110 => ?_) (fun c_110 => ?_)
    · have h := ifF c_110 h
      refine k_iinc C (v := (v10 + (1 : Int32))) (lv' := [(10, .int (v10 + (1 : Int32))), (0, .ref a_this), (1, .int v1), (2, .int v2), (3, .int v3), (4, .int v4), (6, .int v6), (7, .int v7), (8, .int v8), (9, .int v9)]) dX5_meant_122 9 rfl rfl (by decide) rfl ?_
      refine k_goto C (tgt := 84) dX5_meant_125 (by decide) ?_
      refine k_lv (lv' := [(0, .ref a_this), (1, .int v1), (2, .int v2), (3, .int v3), (4, .int v4), (6, .int v6), (7, .int v7), (8, .int v8), (9, .int v9), (10, .int (v10 + (1 : Int32)))]) [1, 2, 3, 4, 5, 6, 7, 8, 9, 0] rfl ?_
      exact kc _ (Option.some.inj h).symm
    · have h := ifT c_110 h
      refine k_iload C dX5_meant_113 7 rfl ?_
      refine k_iconst C (v := (1 : Int32)) dX5_meant_115 (by decide) ?_
      refine k_iload C dX5_meant_116 9 rfl ?_
      refine k_ishl C dX5_meant_118 ?_
      refine k_ior C dX5_meant_119 ?_
      refine k_istore C (lv' := [(8, .int (v8 ||| ((1 : Int32) <<< (v10 &&& 31)))), (0, .ref a_this), (1, .int v1), (2, .int v2), (3, .int v3), (4, .int v4), (6, .int v6), (7, .int v7), (9, .int v9), (10, .int v10)]) dX5_meant_120 (by decide) rfl ?_
      refine k_iinc C (v := (v10 + (1 : Int32))) (lv' := [(10, .int (v10 + (1 : Int32))), (8, .int (v8 ||| ((1 : Int32) <<< (v10 &&& 31)))), (0, .ref a_this), (1, .int v1), (2, .int v2), (3, .int v3), (4, .int v4), (6, .int v6), (7, .int v7), (9, .int v9)]) dX5_meant_122 9 rfl rfl (by decide) rfl ?_
      refine k_goto C (tgt := 84) dX5_meant_125 (by decide) ?_
      refine k_lv (lv' := [(0, .ref a_this), (1, .int v1), (2, .int v2), (3, .int v3), (4, .int v4), (6, .int v6), (7, .int v7), (8, .int (v8 ||| ((1 : Int32) <<< (v10 &&& 31)))), (9, .int v9), (10, .int (v10 + (1 : Int32)))]) [2, 3, 4, 5, 6, 7, 8, 1, 9, 0] rfl ?_
      exact kc _ (Option.some.inj h).symm
set_option maxRecDepth 100000 in
set_option maxHeartbeats 4000000 in
theorem s_R_meant_l84 (C : kC p l e rm_R_meant s m args below meth c D (tyG cI cL cZ) A 11 cX5_meant yX5_meant.cls (Cond.code yX5_meant cX5_meant 11 (some .int) :: WS) (some .int)) {a_this : Nat} {a_gravel : Nat} {a_kind : Nat} {a_own : Nat} {a_likely : Nat} {a_tape : Nat} {a_holding : Nat} {a_rowLength : Nat} {a_rowOf : Nat} {a_refusals : Nat} {a_old : Nat} {a_ahead : Nat} {a_cost : Nat} {a_may : Nat} {a_rest : Nat} {a_way : Nat} {v1 : Int32} {v2 : Int32} {v3 : Int32} {v4 : Int32} {v6 : Int32} {v7 : Int32} {v8 : Int32} {v9 : Int32} {v10 : Int32} {c_n : Int32} {c_rain : Int32} {c_ear : Int32} {c_many : Int32} {c_seed : Int32} {c_taped : Int32} {c_from : Int32} {c_to : Int32} {c_token : Int32} {c_value : Int32} {c_imaged : Int32} {c_gravel : (Nat → Int32)} {c_kind : (Nat → Int32)} {c_own : (Nat → Int32)} {c_holding : (Nat → Int32)} {c_rowLength : (Nat → Int32)} {c_rowOf : (Nat → Int64)} {c_refusals : (Nat → Int32)} {x : (Int32 × (Nat → Int32))} (h : f_R_meant_l84 v1 v2 v3 c_n c_rain c_gravel c_own c_rowOf v8 v10 c_kind = some x)
    (k0 : kW p l e rm_R_meant s m args below meth c D A 11 (cells_R_meant cI cL cZ a_this a_gravel a_kind a_own a_likely a_tape a_holding a_rowLength a_rowOf a_refusals a_old a_ahead a_cost a_may a_rest a_way c_n c_rain c_ear c_many c_seed c_taped c_from c_to c_token c_value c_imaged c_gravel x.2 c_own c_holding c_rowLength c_rowOf c_refusals) [(0, .ref a_this), (1, .int v1), (2, .int v2), (3, .int v3), (4, .int v4), (6, .int v6), (7, .int v7), (8, .int x.1), (9, .int v9)] Q 128 []) :
    kW p l e rm_R_meant s m args below meth c D A 11 (cells_R_meant cI cL cZ a_this a_gravel a_kind a_own a_likely a_tape a_holding a_rowLength a_rowOf a_refusals a_old a_ahead a_cost a_may a_rest a_way c_n c_rain c_ear c_many c_seed c_taped c_from c_to c_token c_value c_imaged c_gravel c_kind c_own c_holding c_rowLength c_rowOf c_refusals) [(0, .ref a_this), (1, .int v1), (2, .int v2), (3, .int v3), (4, .int v4), (6, .int v6), (7, .int v7), (8, .int v8), (9, .int v9), (10, .int v10)] Q 84 [] := by
  unfold f_R_meant_l84 at h
  exact iter_W (body := fun s => f_R_meant_b84 v1 v2 v3 c_n c_rain c_gravel c_own c_rowOf s.1 s.2.1 s.2.2) (r := x) (T := fun sg => kW p l e rm_R_meant s m args below meth c D A 11 (cells_R_meant cI cL cZ a_this a_gravel a_kind a_own a_likely a_tape a_holding a_rowLength a_rowOf a_refusals a_old a_ahead a_cost a_may a_rest a_way c_n c_rain c_ear c_many c_seed c_taped c_from c_to c_token c_value c_imaged c_gravel sg.2.2 c_own c_holding c_rowLength c_rowOf c_refusals) [(0, .ref a_this), (1, .int v1), (2, .int v2), (3, .int v3), (4, .int v4), (6, .int v6), (7, .int v7), (8, .int sg.1), (9, .int v9), (10, .int sg.2.1)] Q 84 []) (fun sg y hy hc _ hr => s_R_meant_b84 C (v1 := v1) (v2 := v2) (v3 := v3) (v4 := v4) (v6 := v6) (v7 := v7) (v8 := sg.1) (v9 := v9) (v10 := sg.2.1) (c_n := c_n) (c_rain := c_rain) (c_ear := c_ear) (c_many := c_many) (c_seed := c_seed) (c_taped := c_taped) (c_from := c_from) (c_to := c_to) (c_token := c_token) (c_value := c_value) (c_imaged := c_imaged) (c_gravel := c_gravel) (c_kind := sg.2.2) (c_own := c_own) (c_holding := c_holding) (c_rowLength := c_rowLength) (c_rowOf := c_rowOf) (c_refusals := c_refusals) (x := y) hy hc (fun r e => by rw [hr r e]; exact k0)) FUEL (v8, v10, c_kind) h
set_option maxRecDepth 100000 in
set_option maxHeartbeats 4000000 in
theorem s_R_meant_b140 (C : kC p l e rm_R_meant s m args below meth c D (tyG cI cL cZ) A 11 cX5_meant yX5_meant.cls (Cond.code yX5_meant cX5_meant 11 (some .int) :: WS) (some .int)) {a_this : Nat} {a_gravel : Nat} {a_kind : Nat} {a_own : Nat} {a_likely : Nat} {a_tape : Nat} {a_holding : Nat} {a_rowLength : Nat} {a_rowOf : Nat} {a_refusals : Nat} {a_old : Nat} {a_ahead : Nat} {a_cost : Nat} {a_may : Nat} {a_rest : Nat} {a_way : Nat} {v1 : Int32} {v2 : Int32} {v3 : Int32} {v4 : Int32} {v7 : Int32} {v8 : Int32} {v9 : Int32} {v10 : Int32} {c_n : Int32} {c_rain : Int32} {c_ear : Int32} {c_many : Int32} {c_seed : Int32} {c_taped : Int32} {c_from : Int32} {c_to : Int32} {c_token : Int32} {c_value : Int32} {c_imaged : Int32} {c_gravel : (Nat → Int32)} {c_kind : (Nat → Int32)} {c_own : (Nat → Int32)} {c_holding : (Nat → Int32)} {c_rowLength : (Nat → Int32)} {c_rowOf : (Nat → Int64)} {c_refusals : (Nat → Int32)} {x : ((Int32 × Int32 × (Nat → Int32)) ⊕ (Int32 × (Nat → Int32)))} (h : f_R_meant_b140 v1 v2 v3 c_n c_rain c_gravel c_kind c_rowOf v9 v10 c_own = some x)
    (kc : ∀ s', x = .inl s' → kW p l e rm_R_meant s m args below meth c D A 11 (cells_R_meant cI cL cZ a_this a_gravel a_kind a_own a_likely a_tape a_holding a_rowLength a_rowOf a_refusals a_old a_ahead a_cost a_may a_rest a_way c_n c_rain c_ear c_many c_seed c_taped c_from c_to c_token c_value c_imaged c_gravel c_kind s'.2.2 c_holding c_rowLength c_rowOf c_refusals) [(0, .ref a_this), (1, .int v1), (2, .int v2), (3, .int v3), (4, .int v4), (7, .int v7), (8, .int v8), (9, .int s'.1), (10, .int s'.2.1)] Q 140 [])
    (k0 : ∀ r, x = .inr r → kW p l e rm_R_meant s m args below meth c D A 11 (cells_R_meant cI cL cZ a_this a_gravel a_kind a_own a_likely a_tape a_holding a_rowLength a_rowOf a_refusals a_old a_ahead a_cost a_may a_rest a_way c_n c_rain c_ear c_many c_seed c_taped c_from c_to c_token c_value c_imaged c_gravel c_kind r.2 c_holding c_rowLength c_rowOf c_refusals) [(0, .ref a_this), (2, .int v2), (4, .int v4), (7, .int v7), (8, .int v8), (9, .int r.1)] Q 177 []) :
    kW p l e rm_R_meant s m args below meth c D A 11 (cells_R_meant cI cL cZ a_this a_gravel a_kind a_own a_likely a_tape a_holding a_rowLength a_rowOf a_refusals a_old a_ahead a_cost a_may a_rest a_way c_n c_rain c_ear c_many c_seed c_taped c_from c_to c_token c_value c_imaged c_gravel c_kind c_own c_holding c_rowLength c_rowOf c_refusals) [(0, .ref a_this), (1, .int v1), (2, .int v2), (3, .int v3), (4, .int v4), (7, .int v7), (8, .int v8), (9, .int v9), (10, .int v10)] Q 140 [] := by
  unfold f_R_meant_b140 at h
  refine k_iload C dX5_meant_140 8 rfl ?_
  refine k_if_lt C (tgt := 177) dX5_meant_142 (by decide) (fun c_142 => ?_) (fun c_142 => ?_)
  · have h := ifT c_142 h
    refine k_lv (lv' := [(0, .ref a_this), (2, .int v2), (4, .int v4), (7, .int v7), (8, .int v8), (9, .int v9)]) [0, 2, 4, 5, 6, 7] rfl ?_
    exact k0 _ (Option.some.inj h).symm
  · have h := ifF c_142 h
    refine k_aload_n C dX5_meant_145 0 rfl rfl ?_
    refine k_get C (C0 := RX5) (T := TX5) (N := 26) (fun w h => List.mem_cons_of_mem _ (us_R w h)) 0 rfl rfl 6 (by decide) (List.mem_cons_of_mem _ wq_585) rfl rfl dX5_meant_146 ?_
    refine k_iload_n C dX5_meant_149 2 rfl rfl ?_
    refine k_iload C dX5_meant_150 8 rfl ?_
    obtain ⟨x13, hx13, h⟩ := bindE h
    refine k_iast C 3 0 (ws' := (cells_R_meant cI cL cZ a_this a_gravel a_kind a_own a_likely a_tape a_holding a_rowLength a_rowOf a_refusals a_old a_ahead a_cost a_may a_rest a_way c_n c_rain c_ear c_many c_seed c_taped c_from c_to c_token c_value c_imaged c_gravel c_kind x13 c_holding c_rowLength c_rowOf c_refusals)) rfl rfl hx13 rfl dX5_meant_152 ?_
    refine k_aload_n C dX5_meant_153 0 rfl rfl ?_
    refine k_iload_n C dX5_meant_154 1 rfl rfl ?_
    refine k_iload_n C dX5_meant_155 2 rfl rfl ?_
    refine k_iload_n C dX5_meant_156 3 rfl rfl ?_
    obtain ⟨x14, hx14, h⟩ := bindE h
    refine kcallR_i C (wc := (cells_R_fits cI cL cZ a_this a_gravel a_kind a_own a_likely a_tape a_holding a_rowLength a_rowOf a_refusals a_old a_ahead a_cost a_may a_rest a_way c_n c_rain c_ear c_many c_seed c_taped c_from c_to c_token c_value c_imaged c_gravel c_kind x13 c_rowOf)) (r := x14) [0, 1, 2, 3, 6] (fun H locs ls hP hD hS hF hz => krunV C (q0 := 0) (ci := 5) (c_R_fits l D cI cL cZ H.size a_this a_gravel a_kind a_own a_likely a_tape a_holding a_rowLength a_rowOf a_refusals a_old a_ahead a_cost a_may a_rest a_way v1 v2 v3 c_n c_rain c_ear c_many c_seed c_taped c_from c_to c_token c_value c_imaged c_gravel c_kind x13 c_rowOf x14 hx14) (cwV 3 C.2.2.2.2.1 (gV wq_748 wq_749 wq_750 wq_551 wq_747) rfl rfl rfl (by decide +kernel) ⟨(Nat.le_of_ble_eq_true rfl), (Nat.le_of_ble_eq_true rfl)⟩) rfl rfl kEnv_T rfl rfl (Nat.le_of_ble_eq_true rfl) dX5_meant_157 hP hD hz) rfl (by decide) ?_
    refine k_aload_n C dX5_meant_160 0 rfl rfl ?_
    refine k_get C (C0 := RX5) (T := TX5) (N := 26) (fun w h => List.mem_cons_of_mem _ (us_R w h)) 0 rfl rfl 0 (by decide) (List.mem_cons_of_mem _ wq_552) rfl rfl dX5_meant_161 ?_
    refine k_icmp_ne C (tgt := 171) dX5_meant_164 (by decide) (fun c_164 => ?_) (fun c_164 => ?_)
    · have h := ifF c_164 h
      refine k_iinc C (v := (v10 + (-1 : Int32))) (lv' := [(10, .int (v10 + (-1 : Int32))), (0, .ref a_this), (1, .int v1), (2, .int v2), (3, .int v3), (4, .int v4), (7, .int v7), (8, .int v8), (9, .int v9)]) dX5_meant_171 8 rfl rfl (by decide) rfl ?_
      refine k_goto C (tgt := 140) dX5_meant_174 (by decide) ?_
      refine k_lv (lv' := [(0, .ref a_this), (1, .int v1), (2, .int v2), (3, .int v3), (4, .int v4), (7, .int v7), (8, .int v8), (9, .int v9), (10, .int (v10 + (-1 : Int32)))]) [1, 2, 3, 4, 5, 6, 7, 8, 0] rfl ?_
      exact kc _ (Option.some.inj h).symm
    · have h := ifT c_164 h
      refine k_iload C dX5_meant_167 8 rfl ?_
      refine k_istore C (lv' := [(9, .int v10), (0, .ref a_this), (1, .int v1), (2, .int v2), (3, .int v3), (4, .int v4), (7, .int v7), (8, .int v8), (10, .int v10)]) dX5_meant_169 (by decide) rfl ?_
      refine k_iinc C (v := (v10 + (-1 : Int32))) (lv' := [(10, .int (v10 + (-1 : Int32))), (9, .int v10), (0, .ref a_this), (1, .int v1), (2, .int v2), (3, .int v3), (4, .int v4), (7, .int v7), (8, .int v8)]) dX5_meant_171 8 rfl rfl (by decide) rfl ?_
      refine k_goto C (tgt := 140) dX5_meant_174 (by decide) ?_
      refine k_lv (lv' := [(0, .ref a_this), (1, .int v1), (2, .int v2), (3, .int v3), (4, .int v4), (7, .int v7), (8, .int v8), (9, .int v10), (10, .int (v10 + (-1 : Int32)))]) [2, 3, 4, 5, 6, 7, 8, 1, 0] rfl ?_
      exact kc _ (Option.some.inj h).symm
set_option maxRecDepth 100000 in
set_option maxHeartbeats 4000000 in
theorem s_R_meant_l140 (C : kC p l e rm_R_meant s m args below meth c D (tyG cI cL cZ) A 11 cX5_meant yX5_meant.cls (Cond.code yX5_meant cX5_meant 11 (some .int) :: WS) (some .int)) {a_this : Nat} {a_gravel : Nat} {a_kind : Nat} {a_own : Nat} {a_likely : Nat} {a_tape : Nat} {a_holding : Nat} {a_rowLength : Nat} {a_rowOf : Nat} {a_refusals : Nat} {a_old : Nat} {a_ahead : Nat} {a_cost : Nat} {a_may : Nat} {a_rest : Nat} {a_way : Nat} {v1 : Int32} {v2 : Int32} {v3 : Int32} {v4 : Int32} {v7 : Int32} {v8 : Int32} {v9 : Int32} {v10 : Int32} {c_n : Int32} {c_rain : Int32} {c_ear : Int32} {c_many : Int32} {c_seed : Int32} {c_taped : Int32} {c_from : Int32} {c_to : Int32} {c_token : Int32} {c_value : Int32} {c_imaged : Int32} {c_gravel : (Nat → Int32)} {c_kind : (Nat → Int32)} {c_own : (Nat → Int32)} {c_holding : (Nat → Int32)} {c_rowLength : (Nat → Int32)} {c_rowOf : (Nat → Int64)} {c_refusals : (Nat → Int32)} {x : (Int32 × (Nat → Int32))} (h : f_R_meant_l140 v1 v2 v3 c_n c_rain c_gravel c_kind c_rowOf v9 v10 c_own = some x)
    (k0 : kW p l e rm_R_meant s m args below meth c D A 11 (cells_R_meant cI cL cZ a_this a_gravel a_kind a_own a_likely a_tape a_holding a_rowLength a_rowOf a_refusals a_old a_ahead a_cost a_may a_rest a_way c_n c_rain c_ear c_many c_seed c_taped c_from c_to c_token c_value c_imaged c_gravel c_kind x.2 c_holding c_rowLength c_rowOf c_refusals) [(0, .ref a_this), (2, .int v2), (4, .int v4), (7, .int v7), (8, .int v8), (9, .int x.1)] Q 177 []) :
    kW p l e rm_R_meant s m args below meth c D A 11 (cells_R_meant cI cL cZ a_this a_gravel a_kind a_own a_likely a_tape a_holding a_rowLength a_rowOf a_refusals a_old a_ahead a_cost a_may a_rest a_way c_n c_rain c_ear c_many c_seed c_taped c_from c_to c_token c_value c_imaged c_gravel c_kind c_own c_holding c_rowLength c_rowOf c_refusals) [(0, .ref a_this), (1, .int v1), (2, .int v2), (3, .int v3), (4, .int v4), (7, .int v7), (8, .int v8), (9, .int v9), (10, .int v10)] Q 140 [] := by
  unfold f_R_meant_l140 at h
  exact iter_W (body := fun s => f_R_meant_b140 v1 v2 v3 c_n c_rain c_gravel c_kind c_rowOf s.1 s.2.1 s.2.2) (r := x) (T := fun sg => kW p l e rm_R_meant s m args below meth c D A 11 (cells_R_meant cI cL cZ a_this a_gravel a_kind a_own a_likely a_tape a_holding a_rowLength a_rowOf a_refusals a_old a_ahead a_cost a_may a_rest a_way c_n c_rain c_ear c_many c_seed c_taped c_from c_to c_token c_value c_imaged c_gravel c_kind sg.2.2 c_holding c_rowLength c_rowOf c_refusals) [(0, .ref a_this), (1, .int v1), (2, .int v2), (3, .int v3), (4, .int v4), (7, .int v7), (8, .int v8), (9, .int sg.1), (10, .int sg.2.1)] Q 140 []) (fun sg y hy hc _ hr => s_R_meant_b140 C (v1 := v1) (v2 := v2) (v3 := v3) (v4 := v4) (v7 := v7) (v8 := v8) (v9 := sg.1) (v10 := sg.2.1) (c_n := c_n) (c_rain := c_rain) (c_ear := c_ear) (c_many := c_many) (c_seed := c_seed) (c_taped := c_taped) (c_from := c_from) (c_to := c_to) (c_token := c_token) (c_value := c_value) (c_imaged := c_imaged) (c_gravel := c_gravel) (c_kind := c_kind) (c_own := sg.2.2) (c_holding := c_holding) (c_rowLength := c_rowLength) (c_rowOf := c_rowOf) (c_refusals := c_refusals) (x := y) hy hc (fun r e => by rw [hr r e]; exact k0)) FUEL (v9, v10, c_own) h

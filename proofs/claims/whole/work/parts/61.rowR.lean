variable {p : Program} {l : Launch} {e : Env} {s : State} {m : MethodId} {args : Array Value} {below : List Frame} {meth : Method} {c : Code} {D : va_G} {A : Nat → Prop} {cI cL cZ : ClassId} {Q : State → Prop}
set_option maxRecDepth 100000 in
set_option maxHeartbeats 4000000 in
theorem s_R_allGravel_l4 (C : kC p l e rm_R_allGravel s m args below meth c D (tyG cI cL cZ) A 3 cX5_allGravel yX5_allGravel.cls (Cond.code yX5_allGravel cX5_allGravel 3 (some .int) :: WS) (some .int)) {a_this : Nat} {a_gravel : Nat} {a_kind : Nat} {a_own : Nat} {a_likely : Nat} {a_tape : Nat} {a_holding : Nat} {a_rowLength : Nat} {a_rowOf : Nat} {a_refusals : Nat} {a_old : Nat} {a_ahead : Nat} {a_cost : Nat} {a_may : Nat} {a_rest : Nat} {a_way : Nat} {v1 : Int32} {v2 : Int32} {c_n : Int32} {c_rain : Int32} {c_ear : Int32} {c_many : Int32} {c_seed : Int32} {c_taped : Int32} {c_from : Int32} {c_to : Int32} {c_token : Int32} {c_value : Int32} {c_imaged : Int32} {c_gravel : (Nat → Int32)} {x : Int32} (h : f_R_allGravel_l4 c_n c_gravel v1 v2 = some x)
    (k0 : kW p l e rm_R_allGravel s m args below meth c D A 3 (cells_R_allGravel cI cL cZ a_this a_gravel a_kind a_own a_likely a_tape a_holding a_rowLength a_rowOf a_refusals a_old a_ahead a_cost a_may a_rest a_way c_n c_rain c_ear c_many c_seed c_taped c_from c_to c_token c_value c_imaged c_gravel) [(1, .int x)] Q 32 []) :
    kW p l e rm_R_allGravel s m args below meth c D A 3 (cells_R_allGravel cI cL cZ a_this a_gravel a_kind a_own a_likely a_tape a_holding a_rowLength a_rowOf a_refusals a_old a_ahead a_cost a_may a_rest a_way c_n c_rain c_ear c_many c_seed c_taped c_from c_to c_token c_value c_imaged c_gravel) [(0, .ref a_this), (1, .int v1), (2, .int v2)] Q 4 [] := by
  unfold f_R_allGravel_l4 at h
  exact iter_W (T := fun sg => kW p l e rm_R_allGravel s m args below meth c D A 3 (cells_R_allGravel cI cL cZ a_this a_gravel a_kind a_own a_likely a_tape a_holding a_rowLength a_rowOf a_refusals a_old a_ahead a_cost a_may a_rest a_way c_n c_rain c_ear c_many c_seed c_taped c_from c_to c_token c_value c_imaged c_gravel) [(0, .ref a_this), (1, .int sg.1), (2, .int sg.2)] Q 4 []) (fun sg y hy hc _ hr => s_R_allGravel_b4 C hy (fun s' e => hc s' e) (fun r e => by rw [hr r e]; exact k0)) FUEL _ h
set_option maxRecDepth 100000 in
set_option maxHeartbeats 4000000 in
theorem s_R_allGravel (C : kC p l e rm_R_allGravel s m args below meth c D (tyG cI cL cZ) A 3 cX5_allGravel yX5_allGravel.cls (Cond.code yX5_allGravel cX5_allGravel 3 (some .int) :: WS) (some .int)) {a_this : Nat} {a_gravel : Nat} {a_kind : Nat} {a_own : Nat} {a_likely : Nat} {a_tape : Nat} {a_holding : Nat} {a_rowLength : Nat} {a_rowOf : Nat} {a_refusals : Nat} {a_old : Nat} {a_ahead : Nat} {a_cost : Nat} {a_may : Nat} {a_rest : Nat} {a_way : Nat} {c_n : Int32} {c_rain : Int32} {c_ear : Int32} {c_many : Int32} {c_seed : Int32} {c_taped : Int32} {c_from : Int32} {c_to : Int32} {c_token : Int32} {c_value : Int32} {c_imaged : Int32} {c_gravel : (Nat → Int32)} {x : Int32} (h : f_R_allGravel c_n c_gravel = some x) :
    kW p l e rm_R_allGravel s m args below meth c D A 3 (cells_R_allGravel cI cL cZ a_this a_gravel a_kind a_own a_likely a_tape a_holding a_rowLength a_rowOf a_refusals a_old a_ahead a_cost a_may a_rest a_way c_n c_rain c_ear c_many c_seed c_taped c_from c_to c_token c_value c_imaged c_gravel) [(0, .ref a_this)] (MQ below (kQi D A (cells_R_allGravel cI cL cZ a_this a_gravel a_kind a_own a_likely a_tape a_holding a_rowLength a_rowOf a_refusals a_old a_ahead a_cost a_may a_rest a_way c_n c_rain c_ear c_many c_seed c_taped c_from c_to c_token c_value c_imaged c_gravel) x) args s 0 0 A) 0 [] := by
  unfold f_R_allGravel at h
  refine k_iconst C (v := (0 : Int32)) dX5_allGravel_0 (by decide) ?_
  refine k_istore_n C (lv' := [(1, .int (0 : Int32)), (0, .ref a_this)]) dX5_allGravel_1 rfl (by decide) rfl ?_
  refine k_iconst C (v := (0 : Int32)) dX5_allGravel_2 (by decide) ?_
  refine k_istore_n C (lv' := [(2, .int (0 : Int32)), (1, .int (0 : Int32)), (0, .ref a_this)]) dX5_allGravel_3 rfl (by decide) rfl ?_
  obtain ⟨x2, hx2, h⟩ := bindE h
  refine k_lv (lv' := [(0, .ref a_this), (1, .int (0 : Int32)), (2, .int (0 : Int32))]) [2, 1, 0] rfl ?_
  refine s_R_allGravel_l4 C hx2 ?_
  refine k_iload_n C dX5_allGravel_32 0 rfl rfl ?_
  obtain rfl := Option.some.inj h
  exact kret_i C rfl dX5_allGravel_33
theorem c_R_allGravel (l : Launch) (D : va_G) (cI : ClassId) (cL : ClassId) (cZ : ClassId) (sz : Nat) (a_this : Nat) (a_gravel : Nat) (a_kind : Nat) (a_own : Nat) (a_likely : Nat) (a_tape : Nat) (a_holding : Nat) (a_rowLength : Nat) (a_rowOf : Nat) (a_refusals : Nat) (a_old : Nat) (a_ahead : Nat) (a_cost : Nat) (a_may : Nat) (a_rest : Nat) (a_way : Nat) (c_n : Int32) (c_rain : Int32) (c_ear : Int32) (c_many : Int32) (c_seed : Int32) (c_taped : Int32) (c_from : Int32) (c_to : Int32) (c_token : Int32) (c_value : Int32) (c_imaged : Int32) (c_gravel : (Nat → Int32)) (x : Int32) (h : f_R_allGravel c_n c_gravel = some x) :
    Met l yX5_allGravel (Cond.code yX5_allGravel cX5_allGravel 3 (some .int) :: WS) rm_R_allGravel (kP D (tyG cI cL cZ) kTrue [.ref a_this] sz (cells_R_allGravel cI cL cZ a_this a_gravel a_kind a_own a_likely a_tape a_holding a_rowLength a_rowOf a_refusals a_old a_ahead a_cost a_may a_rest a_way c_n c_rain c_ear c_many c_seed c_taped c_from c_to c_token c_value c_imaged c_gravel)) (kQi D (va_A (cells_R_allGravel cI cL cZ a_this a_gravel a_kind a_own a_likely a_tape a_holding a_rowLength a_rowOf a_refusals a_old a_ahead a_cost a_may a_rest a_way c_n c_rain c_ear c_many c_seed c_taped c_from c_to c_token c_value c_imaged c_gravel) sz) (cells_R_allGravel cI cL cZ a_this a_gravel a_kind a_own a_likely a_tape a_holding a_rowLength a_rowOf a_refusals a_old a_ahead a_cost a_may a_rest a_way c_n c_rain c_ear c_many c_seed c_taped c_from c_to c_token c_value c_imaged c_gravel) x) 0 0 (va_A (cells_R_allGravel cI cL cZ a_this a_gravel a_kind a_own a_likely a_tape a_holding a_rowLength a_rowOf a_refusals a_old a_ahead a_cost a_may a_rest a_way c_n c_rain c_ear c_many c_seed c_taped c_from c_to c_token c_value c_imaged c_gravel) sz) :=
  kmet (by decide) (Nat.le_of_ble_eq_true rfl) rfl (fun p e s m below meth c C hE => s_R_allGravel C h)
abbrev cells_R_rake (cI : ClassId) (cL : ClassId) (cZ : ClassId) (a_this : Nat) (a_gravel : Nat) (a_kind : Nat) (a_own : Nat) (a_likely : Nat) (a_tape : Nat) (a_holding : Nat) (a_rowLength : Nat) (a_rowOf : Nat) (a_refusals : Nat) (a_old : Nat) (a_ahead : Nat) (a_cost : Nat) (a_may : Nat) (a_rest : Nat) (a_way : Nat) (c_n : Int32) (c_rain : Int32) (c_ear : Int32) (c_many : Int32) (c_seed : Int32) (c_taped : Int32) (c_from : Int32) (c_to : Int32) (c_token : Int32) (c_value : Int32) (c_imaged : Int32) (c_gravel : (Nat → Int32)) : va_W := [(a_this, .inr (5, [.int c_n, .ref a_gravel, .int c_rain, .int c_ear, .int c_many, .ref a_kind, .ref a_own, .ref a_likely, .int c_seed, .int c_taped, .ref a_tape, .int c_from, .int c_to, .int c_token, .int c_value, .ref a_holding, .ref a_rowLength, .ref a_rowOf, .ref a_refusals, .int c_imaged, .ref a_old, .ref a_ahead, .ref a_cost, .ref a_may, .ref a_rest, .ref a_way])), (a_gravel, .inl (cI, 36, .inl c_gravel))]
abbrev rm_R_rake : Room := { frames := 1, cells := 0, slots := 0, locals := 22 }
set_option maxRecDepth 100000 in
set_option maxHeartbeats 4000000 in
theorem s_R_rake (C : kC p l e rm_R_rake s m args below meth c D (tyG cI cL cZ) A 1 cX5_rake yX5_rake.cls (Cond.code yX5_rake cX5_rake 1 (some .int) :: WS) (some .int)) {a_this : Nat} {a_gravel : Nat} {a_kind : Nat} {a_own : Nat} {a_likely : Nat} {a_tape : Nat} {a_holding : Nat} {a_rowLength : Nat} {a_rowOf : Nat} {a_refusals : Nat} {a_old : Nat} {a_ahead : Nat} {a_cost : Nat} {a_may : Nat} {a_rest : Nat} {a_way : Nat} {c_n : Int32} {c_rain : Int32} {c_ear : Int32} {c_many : Int32} {c_seed : Int32} {c_taped : Int32} {c_from : Int32} {c_to : Int32} {c_token : Int32} {c_value : Int32} {c_imaged : Int32} {c_gravel : (Nat → Int32)} {x : (Int32 × (Nat → Int32))} (h : f_R_rake c_n c_gravel = some x) :
    kW p l e rm_R_rake s m args below meth c D A 1 (cells_R_rake cI cL cZ a_this a_gravel a_kind a_own a_likely a_tape a_holding a_rowLength a_rowOf a_refusals a_old a_ahead a_cost a_may a_rest a_way c_n c_rain c_ear c_many c_seed c_taped c_from c_to c_token c_value c_imaged c_gravel) [(0, .ref a_this)] (MQ below (kQi D A (cells_R_rake cI cL cZ a_this a_gravel a_kind a_own a_likely a_tape a_holding a_rowLength a_rowOf a_refusals a_old a_ahead a_cost a_may a_rest a_way c_n c_rain c_ear c_many c_seed c_taped c_from c_to c_token c_value c_imaged x.2) x.1) args s 0 0 A) 0 [] := by
  unfold f_R_rake at h
  refine k_aload_n C dX5_rake_0 0 rfl rfl ?_
  obtain ⟨x1, hx1, h⟩ := bindE h
  refine kcallU_v C (wc := (cells_R_rakes cI cL cZ a_this a_gravel a_kind a_own a_likely a_tape a_holding a_rowLength a_rowOf a_refusals a_old a_ahead a_cost a_may a_rest a_way c_n c_rain c_ear c_many c_seed c_taped c_from c_to c_token c_value c_imaged c_gravel)) (w1 := (cells_R_rakes cI cL cZ a_this a_gravel a_kind a_own a_likely a_tape a_holding a_rowLength a_rowOf a_refusals a_old a_ahead a_cost a_may a_rest a_way c_n c_rain c_ear c_many c_seed c_taped c_from c_to c_token c_value c_imaged x1)) (ws' := (cells_R_rake cI cL cZ a_this a_gravel a_kind a_own a_likely a_tape a_holding a_rowLength a_rowOf a_refusals a_old a_ahead a_cost a_may a_rest a_way c_n c_rain c_ear c_many c_seed c_taped c_from c_to c_token c_value c_imaged x1)) [0, 1] (fun H locs ls hP hD hS hF hz => krunV C (q0 := 0) (ci := 5) (c_R_rakes l D cI cL cZ H.size a_this a_gravel a_kind a_own a_likely a_tape a_holding a_rowLength a_rowOf a_refusals a_old a_ahead a_cost a_may a_rest a_way c_n c_rain c_ear c_many c_seed c_taped c_from c_to c_token c_value c_imaged c_gravel x1 hx1) (cwV 0 C.2.2.2.2.1 (gV wq_628 wq_629 wq_630 wq_544 wq_627) rfl rfl rfl (by decide +kernel) ⟨(Nat.le_of_ble_eq_true rfl), (Nat.le_of_ble_eq_true rfl)⟩) rfl rfl kEnv_T rfl rfl (Nat.le_of_ble_eq_true rfl) dX5_rake_1 hP hD hz) rfl (by decide) rfl rfl ?_
  refine k_aload_n C dX5_rake_4 0 rfl rfl ?_
  obtain ⟨x2, hx2, h⟩ := bindE h
  refine kcallR_i C (wc := (cells_R_allGravel cI cL cZ a_this a_gravel a_kind a_own a_likely a_tape a_holding a_rowLength a_rowOf a_refusals a_old a_ahead a_cost a_may a_rest a_way c_n c_rain c_ear c_many c_seed c_taped c_from c_to c_token c_value c_imaged x1)) (r := x2) [0, 1] (fun H locs ls hP hD hS hF hz => krunV C (q0 := 0) (ci := 5) (c_R_allGravel l D cI cL cZ H.size a_this a_gravel a_kind a_own a_likely a_tape a_holding a_rowLength a_rowOf a_refusals a_old a_ahead a_cost a_may a_rest a_way c_n c_rain c_ear c_many c_seed c_taped c_from c_to c_token c_value c_imaged x1 x2 hx2) (cwV 0 C.2.2.2.2.1 (gV wq_778 wq_779 wq_780 wq_544 wq_777) rfl rfl rfl (by decide +kernel) ⟨(Nat.le_of_ble_eq_true rfl), (Nat.le_of_ble_eq_true rfl)⟩) rfl rfl kEnv_T rfl rfl (Nat.le_of_ble_eq_true rfl) dX5_rake_5 hP hD hz) rfl (by decide) ?_
  obtain rfl := Option.some.inj h
  exact kret_i C rfl dX5_rake_8
theorem c_R_rake (l : Launch) (D : va_G) (cI : ClassId) (cL : ClassId) (cZ : ClassId) (sz : Nat) (a_this : Nat) (a_gravel : Nat) (a_kind : Nat) (a_own : Nat) (a_likely : Nat) (a_tape : Nat) (a_holding : Nat) (a_rowLength : Nat) (a_rowOf : Nat) (a_refusals : Nat) (a_old : Nat) (a_ahead : Nat) (a_cost : Nat) (a_may : Nat) (a_rest : Nat) (a_way : Nat) (c_n : Int32) (c_rain : Int32) (c_ear : Int32) (c_many : Int32) (c_seed : Int32) (c_taped : Int32) (c_from : Int32) (c_to : Int32) (c_token : Int32) (c_value : Int32) (c_imaged : Int32) (c_gravel : (Nat → Int32)) (x : (Int32 × (Nat → Int32))) (h : f_R_rake c_n c_gravel = some x) :
    Met l yX5_rake (Cond.code yX5_rake cX5_rake 1 (some .int) :: WS) rm_R_rake (kP D (tyG cI cL cZ) kTrue [.ref a_this] sz (cells_R_rake cI cL cZ a_this a_gravel a_kind a_own a_likely a_tape a_holding a_rowLength a_rowOf a_refusals a_old a_ahead a_cost a_may a_rest a_way c_n c_rain c_ear c_many c_seed c_taped c_from c_to c_token c_value c_imaged c_gravel)) (kQi D (va_A (cells_R_rake cI cL cZ a_this a_gravel a_kind a_own a_likely a_tape a_holding a_rowLength a_rowOf a_refusals a_old a_ahead a_cost a_may a_rest a_way c_n c_rain c_ear c_many c_seed c_taped c_from c_to c_token c_value c_imaged c_gravel) sz) (cells_R_rake cI cL cZ a_this a_gravel a_kind a_own a_likely a_tape a_holding a_rowLength a_rowOf a_refusals a_old a_ahead a_cost a_may a_rest a_way c_n c_rain c_ear c_many c_seed c_taped c_from c_to c_token c_value c_imaged x.2) x.1) 0 0 (va_A (cells_R_rake cI cL cZ a_this a_gravel a_kind a_own a_likely a_tape a_holding a_rowLength a_rowOf a_refusals a_old a_ahead a_cost a_may a_rest a_way c_n c_rain c_ear c_many c_seed c_taped c_from c_to c_token c_value c_imaged c_gravel) sz) :=
  kmet (by decide) (Nat.le_of_ble_eq_true rfl) rfl (fun p e s m below meth c C hE => s_R_rake C h)
abbrev cells_R_sweep (cI : ClassId) (cL : ClassId) (cZ : ClassId) (a_this : Nat) (a_gravel : Nat) (a_kind : Nat) (a_own : Nat) (a_likely : Nat) (a_tape : Nat) (a_holding : Nat) (a_rowLength : Nat) (a_rowOf : Nat) (a_refusals : Nat) (a_old : Nat) (a_ahead : Nat) (a_cost : Nat) (a_may : Nat) (a_rest : Nat) (a_way : Nat) (c_n : Int32) (c_rain : Int32) (c_ear : Int32) (c_many : Int32) (c_seed : Int32) (c_taped : Int32) (c_from : Int32) (c_to : Int32) (c_token : Int32) (c_value : Int32) (c_imaged : Int32) (c_gravel : (Nat → Int32)) (c_refusals : (Nat → Int32)) : va_W := [(a_this, .inr (5, [.int c_n, .ref a_gravel, .int c_rain, .int c_ear, .int c_many, .ref a_kind, .ref a_own, .ref a_likely, .int c_seed, .int c_taped, .ref a_tape, .int c_from, .int c_to, .int c_token, .int c_value, .ref a_holding, .ref a_rowLength, .ref a_rowOf, .ref a_refusals, .int c_imaged, .ref a_old, .ref a_ahead, .ref a_cost, .ref a_may, .ref a_rest, .ref a_way])), (a_gravel, .inl (cI, 36, .inl c_gravel)), (a_refusals, .inl (cI, 7, .inl c_refusals))]
abbrev rm_R_sweep : Room := { frames := 2, cells := 0, slots := 0, locals := 43 }
set_option maxRecDepth 100000 in
set_option maxHeartbeats 4000000 in
theorem s_R_sweep_b19 (C : kC p l e rm_R_sweep s m args below meth c D (tyG cI cL cZ) A 4 cX5_sweep yX5_sweep.cls (Cond.code yX5_sweep cX5_sweep 4 (some .int) :: WS) (some .int)) {a_this : Nat} {a_gravel : Nat} {a_kind : Nat} {a_own : Nat} {a_likely : Nat} {a_tape : Nat} {a_holding : Nat} {a_rowLength : Nat} {a_rowOf : Nat} {a_refusals : Nat} {a_old : Nat} {a_ahead : Nat} {a_cost : Nat} {a_may : Nat} {a_rest : Nat} {a_way : Nat} {v1 : Int32} {v2 : Int32} {v3 : Int32} {c_n : Int32} {c_rain : Int32} {c_ear : Int32} {c_many : Int32} {c_seed : Int32} {c_taped : Int32} {c_from : Int32} {c_to : Int32} {c_token : Int32} {c_value : Int32} {c_imaged : Int32} {c_gravel : (Nat → Int32)} {c_refusals : (Nat → Int32)} {x : ((Int32 × Int32 × (Nat → Int32)) ⊕ (Int32 × (Nat → Int32)))} (h : f_R_sweep_b19 v1 c_n v2 v3 c_gravel = some x)
    (kc : ∀ s', x = .inl s' → kW p l e rm_R_sweep s m args below meth c D A 4 (cells_R_sweep cI cL cZ a_this a_gravel a_kind a_own a_likely a_tape a_holding a_rowLength a_rowOf a_refusals a_old a_ahead a_cost a_may a_rest a_way c_n c_rain c_ear c_many c_seed c_taped c_from c_to c_token c_value c_imaged s'.2.2 c_refusals) [(0, .ref a_this), (1, .int v1), (2, .int s'.1), (3, .int s'.2.1)] Q 19 [])
    (k0 : ∀ r, x = .inr r → kW p l e rm_R_sweep s m args below meth c D A 4 (cells_R_sweep cI cL cZ a_this a_gravel a_kind a_own a_likely a_tape a_holding a_rowLength a_rowOf a_refusals a_old a_ahead a_cost a_may a_rest a_way c_n c_rain c_ear c_many c_seed c_taped c_from c_to c_token c_value c_imaged r.2 c_refusals) [(2, .int r.1)] Q 63 []) :
    kW p l e rm_R_sweep s m args below meth c D A 4 (cells_R_sweep cI cL cZ a_this a_gravel a_kind a_own a_likely a_tape a_holding a_rowLength a_rowOf a_refusals a_old a_ahead a_cost a_may a_rest a_way c_n c_rain c_ear c_many c_seed c_taped c_from c_to c_token c_value c_imaged c_gravel c_refusals) [(0, .ref a_this), (1, .int v1), (2, .int v2), (3, .int v3)] Q 19 [] := by
  unfold f_R_sweep_b19 at h
  refine k_iload_n C dX5_sweep_19 3 rfl rfl ?_
  refine k_aload_n C dX5_sweep_20 0 rfl rfl ?_
  refine k_get C (C0 := RX5) (T := TX5) (N := 26) (fun w h => List.mem_cons_of_mem _ (us_R w h)) 0 rfl rfl 0 (by decide) (List.mem_cons_of_mem _ wq_545) rfl rfl dX5_sweep_21 ?_
  refine k_icmp_ge C (tgt := 63) dX5_sweep_24 (by decide) (fun c_24 => ?_) (fun c_24 => ?_)
  · have h := ifT c_24 h
    refine k_lv (lv' := [(2, .int v2)]) [2] rfl ?_
    exact k0 _ (Option.some.inj h).symm
  · have h := ifF c_24 h
    refine k_iload_n C dX5_sweep_27 2 rfl rfl ?_
    refine k_aload_n C dX5_sweep_28 0 rfl rfl ?_
    refine k_get C (C0 := RX5) (T := TX5) (N := 26) (fun w h => List.mem_cons_of_mem _ (us_R w h)) 0 rfl rfl 1 (by decide) (List.mem_cons_of_mem _ wq_571) rfl rfl dX5_sweep_29 ?_
    refine k_iload_n C dX5_sweep_32 3 rfl rfl ?_
    refine k_aload_n C dX5_sweep_33 0 rfl rfl ?_
    refine k_get C (C0 := RX5) (T := TX5) (N := 26) (fun w h => List.mem_cons_of_mem _ (us_R w h)) 0 rfl rfl 0 (by decide) (List.mem_cons_of_mem _ wq_545) rfl rfl dX5_sweep_34 ?_
    refine k_imul C dX5_sweep_37 ?_
    refine k_iload_n C dX5_sweep_38 1 rfl rfl ?_
    refine k_iadd C dX5_sweep_39 ?_
    obtain ⟨x2, hx2, h⟩ := bindE h
    refine k_iald C 1 0 rfl rfl hx2 dX5_sweep_40 ?_
    refine k_iadd C dX5_sweep_41 ?_
    refine k_istore_n C (lv' := [(2, .int (v2 + x2)), (0, .ref a_this), (1, .int v1), (3, .int v3)]) dX5_sweep_42 rfl (by decide) rfl ?_
    refine k_aload_n C dX5_sweep_43 1 rfl rfl ?_
    refine k_get C (C0 := RX5) (T := TX5) (N := 26) (fun w h => List.mem_cons_of_mem _ (us_R w h)) 0 rfl rfl 1 (by decide) (List.mem_cons_of_mem _ wq_571) rfl rfl dX5_sweep_44 ?_
    refine k_iload_n C dX5_sweep_47 3 rfl rfl ?_
    refine k_aload_n C dX5_sweep_48 1 rfl rfl ?_
    refine k_get C (C0 := RX5) (T := TX5) (N := 26) (fun w h => List.mem_cons_of_mem _ (us_R w h)) 0 rfl rfl 0 (by decide) (List.mem_cons_of_mem _ wq_545) rfl rfl dX5_sweep_49 ?_
    refine k_imul C dX5_sweep_52 ?_
    refine k_iload_n C dX5_sweep_53 2 rfl rfl ?_
    refine k_iadd C dX5_sweep_54 ?_
    refine k_iconst C (v := (0 : Int32)) dX5_sweep_55 (by decide) ?_
    obtain ⟨x3, hx3, h⟩ := bindE h
    refine k_iast C 1 0 (ws' := (cells_R_sweep cI cL cZ a_this a_gravel a_kind a_own a_likely a_tape a_holding a_rowLength a_rowOf a_refusals a_old a_ahead a_cost a_may a_rest a_way c_n c_rain c_ear c_many c_seed c_taped c_from c_to c_token c_value c_imaged x3 c_refusals)) rfl rfl hx3 rfl dX5_sweep_56 ?_
    refine k_iinc C (v := (v3 + (1 : Int32))) (lv' := [(3, .int (v3 + (1 : Int32))), (2, .int (v2 + x2)), (0, .ref a_this), (1, .int v1)]) dX5_sweep_57 3 rfl rfl (by decide) rfl ?_
    refine k_goto C (tgt := 19) dX5_sweep_60 (by decide) ?_
    refine k_lv (lv' := [(0, .ref a_this), (1, .int v1), (2, .int (v2 + x2)), (3, .int (v3 + (1 : Int32)))]) [2, 3, 1, 0] rfl ?_
    exact kc _ (Option.some.inj h).symm
set_option maxRecDepth 100000 in
set_option maxHeartbeats 4000000 in
theorem s_R_sweep_l19 (C : kC p l e rm_R_sweep s m args below meth c D (tyG cI cL cZ) A 4 cX5_sweep yX5_sweep.cls (Cond.code yX5_sweep cX5_sweep 4 (some .int) :: WS) (some .int)) {a_this : Nat} {a_gravel : Nat} {a_kind : Nat} {a_own : Nat} {a_likely : Nat} {a_tape : Nat} {a_holding : Nat} {a_rowLength : Nat} {a_rowOf : Nat} {a_refusals : Nat} {a_old : Nat} {a_ahead : Nat} {a_cost : Nat} {a_may : Nat} {a_rest : Nat} {a_way : Nat} {v1 : Int32} {v2 : Int32} {v3 : Int32} {c_n : Int32} {c_rain : Int32} {c_ear : Int32} {c_many : Int32} {c_seed : Int32} {c_taped : Int32} {c_from : Int32} {c_to : Int32} {c_token : Int32} {c_value : Int32} {c_imaged : Int32} {c_gravel : (Nat → Int32)} {c_refusals : (Nat → Int32)} {x : (Int32 × (Nat → Int32))} (h : f_R_sweep_l19 v1 c_n v2 v3 c_gravel = some x)
    (k0 : kW p l e rm_R_sweep s m args below meth c D A 4 (cells_R_sweep cI cL cZ a_this a_gravel a_kind a_own a_likely a_tape a_holding a_rowLength a_rowOf a_refusals a_old a_ahead a_cost a_may a_rest a_way c_n c_rain c_ear c_many c_seed c_taped c_from c_to c_token c_value c_imaged x.2 c_refusals) [(2, .int x.1)] Q 63 []) :
    kW p l e rm_R_sweep s m args below meth c D A 4 (cells_R_sweep cI cL cZ a_this a_gravel a_kind a_own a_likely a_tape a_holding a_rowLength a_rowOf a_refusals a_old a_ahead a_cost a_may a_rest a_way c_n c_rain c_ear c_many c_seed c_taped c_from c_to c_token c_value c_imaged c_gravel c_refusals) [(0, .ref a_this), (1, .int v1), (2, .int v2), (3, .int v3)] Q 19 [] := by
  unfold f_R_sweep_l19 at h
  exact iter_W (T := fun sg => kW p l e rm_R_sweep s m args below meth c D A 4 (cells_R_sweep cI cL cZ a_this a_gravel a_kind a_own a_likely a_tape a_holding a_rowLength a_rowOf a_refusals a_old a_ahead a_cost a_may a_rest a_way c_n c_rain c_ear c_many c_seed c_taped c_from c_to c_token c_value c_imaged sg.2.2 c_refusals) [(0, .ref a_this), (1, .int v1), (2, .int sg.1), (3, .int sg.2.1)] Q 19 []) (fun sg y hy hc _ hr => s_R_sweep_b19 C hy (fun s' e => hc s' e) (fun r e => by rw [hr r e]; exact k0)) FUEL _ h
set_option maxRecDepth 100000 in
set_option maxHeartbeats 4000000 in
theorem s_R_sweep (C : kC p l e rm_R_sweep s m args below meth c D (tyG cI cL cZ) A 4 cX5_sweep yX5_sweep.cls (Cond.code yX5_sweep cX5_sweep 4 (some .int) :: WS) (some .int)) {a_this : Nat} {a_gravel : Nat} {a_kind : Nat} {a_own : Nat} {a_likely : Nat} {a_tape : Nat} {a_holding : Nat} {a_rowLength : Nat} {a_rowOf : Nat} {a_refusals : Nat} {a_old : Nat} {a_ahead : Nat} {a_cost : Nat} {a_may : Nat} {a_rest : Nat} {a_way : Nat} {v1 : Int32} {c_n : Int32} {c_rain : Int32} {c_ear : Int32} {c_many : Int32} {c_seed : Int32} {c_taped : Int32} {c_from : Int32} {c_to : Int32} {c_token : Int32} {c_value : Int32} {c_imaged : Int32} {c_gravel : (Nat → Int32)} {c_refusals : (Nat → Int32)} {x : (Int32 × (Nat → Int32) × (Nat → Int32))} (h : f_R_sweep v1 c_n c_gravel c_refusals = some x) :
    kW p l e rm_R_sweep s m args below meth c D A 4 (cells_R_sweep cI cL cZ a_this a_gravel a_kind a_own a_likely a_tape a_holding a_rowLength a_rowOf a_refusals a_old a_ahead a_cost a_may a_rest a_way c_n c_rain c_ear c_many c_seed c_taped c_from c_to c_token c_value c_imaged c_gravel c_refusals) [(0, .ref a_this), (1, .int v1)] (MQ below (kQi D A (cells_R_sweep cI cL cZ a_this a_gravel a_kind a_own a_likely a_tape a_holding a_rowLength a_rowOf a_refusals a_old a_ahead a_cost a_may a_rest a_way c_n c_rain c_ear c_many c_seed c_taped c_from c_to c_token c_value c_imaged x.2.1 x.2.2) x.1) args s 0 0 A) 0 [] := by
  unfold f_R_sweep at h
  refine k_aload_n C dX5_sweep_0 0 rfl rfl ?_
  refine k_iload_n C dX5_sweep_1 1 rfl rfl ?_
  obtain ⟨x1, hx1, h⟩ := bindE h
  refine kcallR_i C (wc := (cells_R_isColumn cI cL cZ a_this a_gravel a_kind a_own a_likely a_tape a_holding a_rowLength a_rowOf a_refusals a_old a_ahead a_cost a_may a_rest a_way c_n c_rain c_ear c_many c_seed c_taped c_from c_to c_token c_value c_imaged)) (r := x1) [0] (fun H locs ls hP hD hS hF hz => krunV C (q0 := 0) (ci := 5) (c_R_isColumn l D cI cL cZ H.size a_this a_gravel a_kind a_own a_likely a_tape a_holding a_rowLength a_rowOf a_refusals a_old a_ahead a_cost a_may a_rest a_way v1 c_n c_rain c_ear c_many c_seed c_taped c_from c_to c_token c_value c_imaged x1 hx1) (cwV 1 C.2.2.2.2.1 (gV wq_718 wq_719 wq_720 wq_544 wq_717) rfl rfl rfl (by decide +kernel) ⟨(Nat.le_of_ble_eq_true rfl), (Nat.le_of_ble_eq_true rfl)⟩) rfl rfl kEnv_T rfl rfl (Nat.le_of_ble_eq_true rfl) dX5_sweep_2 hP hD hz) rfl (by decide) ?_
  refine k_if_ne C (tgt := 15) dX5_sweep_5 (by decide) (fun c_5 => ?_) (fun c_5 => ?_)
  · have h := ifF c_5 h
    refine k_iconst C (v := (0 : Int32)) dX5_sweep_15 (by decide) ?_
    refine k_istore_n C (lv' := [(2, .int (0 : Int32)), (0, .ref a_this), (1, .int v1)]) dX5_sweep_16 rfl (by decide) rfl ?_
    refine k_iconst C (v := (0 : Int32)) dX5_sweep_17 (by decide) ?_
    refine k_istore_n C (lv' := [(3, .int (0 : Int32)), (2, .int (0 : Int32)), (0, .ref a_this), (1, .int v1)]) dX5_sweep_18 rfl (by decide) rfl ?_
    obtain ⟨x4, hx4, h⟩ := bindE h
    refine k_lv (lv' := [(0, .ref a_this), (1, .int v1), (2, .int (0 : Int32)), (3, .int (0 : Int32))]) [2, 3, 1, 0] rfl ?_
    refine s_R_sweep_l19 C hx4 ?_
    refine k_iload_n C dX5_sweep_63 0 rfl rfl ?_
    obtain rfl := Option.some.inj h
    exact kret_i C rfl dX5_sweep_64
  · have h := ifT c_5 h
    refine k_aload_n C dX5_sweep_8 0 rfl rfl ?_
    refine k_bipush C (v := (-2 : Int32)) dX5_sweep_9 (by decide) ?_
    obtain ⟨x5, hx5, h⟩ := bindE h
    refine kcallU_i C (wc := (cells_R_no cI cL cZ a_this a_gravel a_kind a_own a_likely a_tape a_holding a_rowLength a_rowOf a_refusals a_old a_ahead a_cost a_may a_rest a_way c_n c_rain c_ear c_many c_seed c_taped c_from c_to c_token c_value c_imaged c_refusals)) (w1 := (cells_R_no cI cL cZ a_this a_gravel a_kind a_own a_likely a_tape a_holding a_rowLength a_rowOf a_refusals a_old a_ahead a_cost a_may a_rest a_way c_n c_rain c_ear c_many c_seed c_taped c_from c_to c_token c_value c_imaged x5.2)) (ws' := (cells_R_sweep cI cL cZ a_this a_gravel a_kind a_own a_likely a_tape a_holding a_rowLength a_rowOf a_refusals a_old a_ahead a_cost a_may a_rest a_way c_n c_rain c_ear c_many c_seed c_taped c_from c_to c_token c_value c_imaged c_gravel x5.2)) (r := x5.1) [0, 2] (fun H locs ls hP hD hS hF hz => krunV C (q0 := 0) (ci := 5) (c_R_no l D cI cL cZ H.size a_this a_gravel a_kind a_own a_likely a_tape a_holding a_rowLength a_rowOf a_refusals a_old a_ahead a_cost a_may a_rest a_way (-2 : Int32) c_n c_rain c_ear c_many c_seed c_taped c_from c_to c_token c_value c_imaged c_refusals x5 hx5) (cwV 1 C.2.2.2.2.1 (gV wq_551 wq_552 wq_553 wq_544 wq_550) rfl rfl rfl (by decide +kernel) ⟨(Nat.le_of_ble_eq_true rfl), (Nat.le_of_ble_eq_true rfl)⟩) rfl rfl kEnv_T rfl rfl (Nat.le_of_ble_eq_true rfl) dX5_sweep_11 hP hD hz) rfl (by decide) rfl rfl ?_
    obtain rfl := Option.some.inj h
    exact kret_i C rfl dX5_sweep_14
theorem c_R_sweep (l : Launch) (D : va_G) (cI : ClassId) (cL : ClassId) (cZ : ClassId) (sz : Nat) (a_this : Nat) (a_gravel : Nat) (a_kind : Nat) (a_own : Nat) (a_likely : Nat) (a_tape : Nat) (a_holding : Nat) (a_rowLength : Nat) (a_rowOf : Nat) (a_refusals : Nat) (a_old : Nat) (a_ahead : Nat) (a_cost : Nat) (a_may : Nat) (a_rest : Nat) (a_way : Nat) (v1 : Int32) (c_n : Int32) (c_rain : Int32) (c_ear : Int32) (c_many : Int32) (c_seed : Int32) (c_taped : Int32) (c_from : Int32) (c_to : Int32) (c_token : Int32) (c_value : Int32) (c_imaged : Int32) (c_gravel : (Nat → Int32)) (c_refusals : (Nat → Int32)) (x : (Int32 × (Nat → Int32) × (Nat → Int32))) (h : f_R_sweep v1 c_n c_gravel c_refusals = some x) :
    Met l yX5_sweep (Cond.code yX5_sweep cX5_sweep 4 (some .int) :: WS) rm_R_sweep (kP D (tyG cI cL cZ) kTrue [.ref a_this, .int v1] sz (cells_R_sweep cI cL cZ a_this a_gravel a_kind a_own a_likely a_tape a_holding a_rowLength a_rowOf a_refusals a_old a_ahead a_cost a_may a_rest a_way c_n c_rain c_ear c_many c_seed c_taped c_from c_to c_token c_value c_imaged c_gravel c_refusals)) (kQi D (va_A (cells_R_sweep cI cL cZ a_this a_gravel a_kind a_own a_likely a_tape a_holding a_rowLength a_rowOf a_refusals a_old a_ahead a_cost a_may a_rest a_way c_n c_rain c_ear c_many c_seed c_taped c_from c_to c_token c_value c_imaged c_gravel c_refusals) sz) (cells_R_sweep cI cL cZ a_this a_gravel a_kind a_own a_likely a_tape a_holding a_rowLength a_rowOf a_refusals a_old a_ahead a_cost a_may a_rest a_way c_n c_rain c_ear c_many c_seed c_taped c_from c_to c_token c_value c_imaged x.2.1 x.2.2) x.1) 0 0 (va_A (cells_R_sweep cI cL cZ a_this a_gravel a_kind a_own a_likely a_tape a_holding a_rowLength a_rowOf a_refusals a_old a_ahead a_cost a_may a_rest a_way c_n c_rain c_ear c_many c_seed c_taped c_from c_to c_token c_value c_imaged c_gravel c_refusals) sz) :=
  kmet (by decide) (Nat.le_of_ble_eq_true rfl) rfl (fun p e s m below meth c C hE => s_R_sweep C h)
abbrev cells_R_draw (cI : ClassId) (cL : ClassId) (cZ : ClassId) (a_this : Nat) (a_gravel : Nat) (a_kind : Nat) (a_own : Nat) (a_likely : Nat) (a_tape : Nat) (a_holding : Nat) (a_rowLength : Nat) (a_rowOf : Nat) (a_refusals : Nat) (a_old : Nat) (a_ahead : Nat) (a_cost : Nat) (a_may : Nat) (a_rest : Nat) (a_way : Nat) (c_n : Int32) (c_rain : Int32) (c_ear : Int32) (c_many : Int32) (c_seed : Int32) (c_taped : Int32) (c_from : Int32) (c_to : Int32) (c_token : Int32) (c_value : Int32) (c_imaged : Int32) : va_W := [(a_this, .inr (5, [.int c_n, .ref a_gravel, .int c_rain, .int c_ear, .int c_many, .ref a_kind, .ref a_own, .ref a_likely, .int c_seed, .int c_taped, .ref a_tape, .int c_from, .int c_to, .int c_token, .int c_value, .ref a_holding, .ref a_rowLength, .ref a_rowOf, .ref a_refusals, .int c_imaged, .ref a_old, .ref a_ahead, .ref a_cost, .ref a_may, .ref a_rest, .ref a_way]))]
abbrev rm_R_draw : Room := { frames := 0, cells := 0, slots := 0, locals := 0 }
set_option maxRecDepth 100000 in
set_option maxHeartbeats 4000000 in
theorem s_R_draw (C : kC p l e rm_R_draw s m args below meth c D (tyG cI cL cZ) A 2 cX5_draw yX5_draw.cls (Cond.code yX5_draw cX5_draw 2 (some .int) :: WS) (some .int)) {a_this : Nat} {a_gravel : Nat} {a_kind : Nat} {a_own : Nat} {a_likely : Nat} {a_tape : Nat} {a_holding : Nat} {a_rowLength : Nat} {a_rowOf : Nat} {a_refusals : Nat} {a_old : Nat} {a_ahead : Nat} {a_cost : Nat} {a_may : Nat} {a_rest : Nat} {a_way : Nat} {v1 : Int32} {c_n : Int32} {c_rain : Int32} {c_ear : Int32} {c_many : Int32} {c_seed : Int32} {c_taped : Int32} {c_from : Int32} {c_to : Int32} {c_token : Int32} {c_value : Int32} {c_imaged : Int32} {x : (Int32 × Int32)} (h : f_R_draw v1 c_seed = some x) :
    kW p l e rm_R_draw s m args below meth c D A 2 (cells_R_draw cI cL cZ a_this a_gravel a_kind a_own a_likely a_tape a_holding a_rowLength a_rowOf a_refusals a_old a_ahead a_cost a_may a_rest a_way c_n c_rain c_ear c_many c_seed c_taped c_from c_to c_token c_value c_imaged) [(0, .ref a_this), (1, .int v1)] (MQ below (kQi D A (cells_R_draw cI cL cZ a_this a_gravel a_kind a_own a_likely a_tape a_holding a_rowLength a_rowOf a_refusals a_old a_ahead a_cost a_may a_rest a_way c_n c_rain c_ear c_many x.2 c_taped c_from c_to c_token c_value c_imaged) x.1) args s 0 0 A) 0 [] := by
  unfold f_R_draw at h
  refine k_aload_n C dX5_draw_0 0 rfl rfl ?_
  refine k_aload_n C dX5_draw_1 0 rfl rfl ?_
  refine k_get C (C0 := RX5) (T := TX5) (N := 26) (fun w h => List.mem_cons_of_mem _ (us_R w h)) 0 rfl rfl 8 (by decide) (List.mem_cons_of_mem _ wq_631) rfl rfl dX5_draw_2 ?_
  refine k_ldcw C (List.mem_cons_of_mem _ wq_781) dX5_draw_5 ?_
  refine k_imul C dX5_draw_8 ?_
  refine k_sipush C (v := (12345 : Int32)) dX5_draw_9 (by decide) ?_
  refine k_iadd C dX5_draw_12 ?_
  refine k_put C (C0 := RX5) (T := TX5) (N := 26) (ws' := (cells_R_draw cI cL cZ a_this a_gravel a_kind a_own a_likely a_tape a_holding a_rowLength a_rowOf a_refusals a_old a_ahead a_cost a_may a_rest a_way c_n c_rain c_ear c_many ((c_seed * (1103515245 : Int32)) + (12345 : Int32)) c_taped c_from c_to c_token c_value c_imaged)) (fun w h => List.mem_cons_of_mem _ (us_R w h)) tyX5 tyX5_ok nmX5 0 rfl rfl 8 (by decide) (List.mem_cons_of_mem _ wq_631) rfl rfl (tyX5_ok 8 (by decide)) rfl rfl (Nat.le_of_ble_eq_true rfl) rfl dX5_draw_13 ?_
  refine k_aload_n C dX5_draw_16 0 rfl rfl ?_
  refine k_get C (C0 := RX5) (T := TX5) (N := 26) (fun w h => List.mem_cons_of_mem _ (us_R w h)) 0 rfl rfl 8 (by decide) (List.mem_cons_of_mem _ wq_631) rfl rfl dX5_draw_17 ?_
  refine k_bipush C (v := (16 : Int32)) dX5_draw_20 (by decide) ?_
  refine k_iushr C dX5_draw_22 ?_
  refine k_iload_n C dX5_draw_23 1 rfl rfl ?_
  obtain ⟨x1, hx1, h⟩ := bindE h
  refine k_irem C dX5_draw_24 hx1 ?_
  obtain rfl := Option.some.inj h
  exact kret_i C rfl dX5_draw_25
theorem c_R_draw (l : Launch) (D : va_G) (cI : ClassId) (cL : ClassId) (cZ : ClassId) (sz : Nat) (a_this : Nat) (a_gravel : Nat) (a_kind : Nat) (a_own : Nat) (a_likely : Nat) (a_tape : Nat) (a_holding : Nat) (a_rowLength : Nat) (a_rowOf : Nat) (a_refusals : Nat) (a_old : Nat) (a_ahead : Nat) (a_cost : Nat) (a_may : Nat) (a_rest : Nat) (a_way : Nat) (v1 : Int32) (c_n : Int32) (c_rain : Int32) (c_ear : Int32) (c_many : Int32) (c_seed : Int32) (c_taped : Int32) (c_from : Int32) (c_to : Int32) (c_token : Int32) (c_value : Int32) (c_imaged : Int32) (x : (Int32 × Int32)) (h : f_R_draw v1 c_seed = some x) :
    Met l yX5_draw (Cond.code yX5_draw cX5_draw 2 (some .int) :: WS) rm_R_draw (kP D (tyG cI cL cZ) kTrue [.ref a_this, .int v1] sz (cells_R_draw cI cL cZ a_this a_gravel a_kind a_own a_likely a_tape a_holding a_rowLength a_rowOf a_refusals a_old a_ahead a_cost a_may a_rest a_way c_n c_rain c_ear c_many c_seed c_taped c_from c_to c_token c_value c_imaged)) (kQi D (va_A (cells_R_draw cI cL cZ a_this a_gravel a_kind a_own a_likely a_tape a_holding a_rowLength a_rowOf a_refusals a_old a_ahead a_cost a_may a_rest a_way c_n c_rain c_ear c_many c_seed c_taped c_from c_to c_token c_value c_imaged) sz) (cells_R_draw cI cL cZ a_this a_gravel a_kind a_own a_likely a_tape a_holding a_rowLength a_rowOf a_refusals a_old a_ahead a_cost a_may a_rest a_way c_n c_rain c_ear c_many x.2 c_taped c_from c_to c_token c_value c_imaged) x.1) 0 0 (va_A (cells_R_draw cI cL cZ a_this a_gravel a_kind a_own a_likely a_tape a_holding a_rowLength a_rowOf a_refusals a_old a_ahead a_cost a_may a_rest a_way c_n c_rain c_ear c_many c_seed c_taped c_from c_to c_token c_value c_imaged) sz) :=
  kmet (by decide) (Nat.le_of_ble_eq_true rfl) rfl (fun p e s m below meth c C hE => s_R_draw C h)
abbrev cells_R_arrivals (cI : ClassId) (cL : ClassId) (cZ : ClassId) (a_this : Nat) (a_gravel : Nat) (a_kind : Nat) (a_own : Nat) (a_likely : Nat) (a_tape : Nat) (a_holding : Nat) (a_rowLength : Nat) (a_rowOf : Nat) (a_refusals : Nat) (a_old : Nat) (a_ahead : Nat) (a_cost : Nat) (a_may : Nat) (a_rest : Nat) (a_way : Nat) (c_n : Int32) (c_rain : Int32) (c_ear : Int32) (c_many : Int32) (c_seed : Int32) (c_taped : Int32) (c_from : Int32) (c_to : Int32) (c_token : Int32) (c_value : Int32) (c_imaged : Int32) (c_gravel : (Nat → Int32)) (c_kind : (Nat → Int32)) (c_own : (Nat → Int32)) (c_likely : (Nat → Int32)) (c_refusals : (Nat → Int32)) : va_W := [(a_this, .inr (5, [.int c_n, .ref a_gravel, .int c_rain, .int c_ear, .int c_many, .ref a_kind, .ref a_own, .ref a_likely, .int c_seed, .int c_taped, .ref a_tape, .int c_from, .int c_to, .int c_token, .int c_value, .ref a_holding, .ref a_rowLength, .ref a_rowOf, .ref a_refusals, .int c_imaged, .ref a_old, .ref a_ahead, .ref a_cost, .ref a_may, .ref a_rest, .ref a_way])), (a_gravel, .inl (cI, 36, .inl c_gravel)), (a_kind, .inl (cI, 8, .inl c_kind)), (a_own, .inl (cI, 8, .inl c_own)), (a_likely, .inl (cI, 8, .inl c_likely)), (a_refusals, .inl (cI, 7, .inl c_refusals))]
abbrev rm_R_arrivals : Room := { frames := 4, cells := 0, slots := 0, locals := 102 }
set_option maxRecDepth 100000 in
set_option maxHeartbeats 4000000 in
theorem s_R_arrivals_b53 (C : kC p l e rm_R_arrivals s m args below meth c D (tyG cI cL cZ) A 9 cX5_arrivals yX5_arrivals.cls (Cond.code yX5_arrivals cX5_arrivals 9 (some .int) :: WS) (some .int)) {a_this : Nat} {a_gravel : Nat} {a_kind : Nat} {a_own : Nat} {a_likely : Nat} {a_tape : Nat} {a_holding : Nat} {a_rowLength : Nat} {a_rowOf : Nat} {a_refusals : Nat} {a_old : Nat} {a_ahead : Nat} {a_cost : Nat} {a_may : Nat} {a_rest : Nat} {a_way : Nat} {v1 : Int32} {v2 : Int32} {v3 : Int32} {v4 : Int32} {v5 : Int32} {c_n : Int32} {c_rain : Int32} {c_ear : Int32} {c_many : Int32} {c_seed : Int32} {c_taped : Int32} {c_from : Int32} {c_to : Int32} {c_token : Int32} {c_value : Int32} {c_imaged : Int32} {c_gravel : (Nat → Int32)} {c_kind : (Nat → Int32)} {c_own : (Nat → Int32)} {c_likely : (Nat → Int32)} {c_refusals : (Nat → Int32)} {x : ((Int32 × Int32) ⊕ Int32)} (h : f_R_arrivals_b53 c_likely v4 v5 = some x)
    (kc : ∀ s', x = .inl s' → kW p l e rm_R_arrivals s m args below meth c D A 9 (cells_R_arrivals cI cL cZ a_this a_gravel a_kind a_own a_likely a_tape a_holding a_rowLength a_rowOf a_refusals a_old a_ahead a_cost a_may a_rest a_way c_n c_rain c_ear c_many c_seed c_taped c_from c_to c_token c_value c_imaged c_gravel c_kind c_own c_likely c_refusals) [(0, .ref a_this), (1, .int v1), (2, .int v2), (3, .int v3), (4, .int s'.1), (5, .int s'.2)] Q 53 [])
    (k0 : ∀ r, x = .inr r → kW p l e rm_R_arrivals s m args below meth c D A 9 (cells_R_arrivals cI cL cZ a_this a_gravel a_kind a_own a_likely a_tape a_holding a_rowLength a_rowOf a_refusals a_old a_ahead a_cost a_may a_rest a_way c_n c_rain c_ear c_many c_seed c_taped c_from c_to c_token c_value c_imaged c_gravel c_kind c_own c_likely c_refusals) [(0, .ref a_this), (1, .int v1), (2, .int v2), (3, .int v3), (5, .int r)] Q 83 []) :
    kW p l e rm_R_arrivals s m args below meth c D A 9 (cells_R_arrivals cI cL cZ a_this a_gravel a_kind a_own a_likely a_tape a_holding a_rowLength a_rowOf a_refusals a_old a_ahead a_cost a_may a_rest a_way c_n c_rain c_ear c_many c_seed c_taped c_from c_to c_token c_value c_imaged c_gravel c_kind c_own c_likely c_refusals) [(0, .ref a_this), (1, .int v1), (2, .int v2), (3, .int v3), (4, .int v4), (5, .int v5)] Q 53 [] := by
  unfold f_R_arrivals_b53 at h
  refine k_iload C dX5_arrivals_53 4 rfl ?_
  refine k_aload_n C dX5_arrivals_55 0 rfl rfl ?_
  refine k_get C (C0 := RX5) (T := TX5) (N := 26) (fun w h => List.mem_cons_of_mem _ (us_R w h)) 0 rfl rfl 7 (by decide) (List.mem_cons_of_mem _ wq_587) rfl rfl dX5_arrivals_56 ?_
  refine k_iload C dX5_arrivals_59 5 rfl ?_
  obtain ⟨x4, hx4, h⟩ := bindE h
  refine k_iald C 4 0 rfl rfl hx4 dX5_arrivals_61 ?_
  refine k_icmp_lt C (tgt := 83) dX5_arrivals_62 (by decide) (fun c_62 => ?_) (fun c_62 => ?_)
  · have h := ifT c_62 h
    refine k_lv (lv' := [(0, .ref a_this), (1, .int v1), (2, .int v2), (3, .int v3), (5, .int v5)]) [0, 1, 2, 3, 5] rfl ?_
    exact k0 _ (Option.some.inj h).symm
  · have h := ifF c_62 h
    refine k_iload C dX5_arrivals_65 4 rfl ?_
    refine k_aload_n C dX5_arrivals_67 0 rfl rfl ?_
    refine k_get C (C0 := RX5) (T := TX5) (N := 26) (fun w h => List.mem_cons_of_mem _ (us_R w h)) 0 rfl rfl 7 (by decide) (List.mem_cons_of_mem _ wq_587) rfl rfl dX5_arrivals_68 ?_
    refine k_iload C dX5_arrivals_71 5 rfl ?_
    obtain ⟨x5, hx5, h⟩ := bindE h
    refine k_iald C 4 0 rfl rfl hx5 dX5_arrivals_73 ?_
    refine k_isub C dX5_arrivals_74 ?_
    refine k_istore C (lv' := [(4, .int (v4 - x5)), (0, .ref a_this), (1, .int v1), (2, .int v2), (3, .int v3), (5, .int v5)]) dX5_arrivals_75 (by decide) rfl ?_
    refine k_iinc C (v := (v5 + (1 : Int32))) (lv' := [(5, .int (v5 + (1 : Int32))), (4, .int (v4 - x5)), (0, .ref a_this), (1, .int v1), (2, .int v2), (3, .int v3)]) dX5_arrivals_77 5 rfl rfl (by decide) rfl ?_
    refine k_goto C (tgt := 53) dX5_arrivals_80 (by decide) ?_
    refine k_lv (lv' := [(0, .ref a_this), (1, .int v1), (2, .int v2), (3, .int v3), (4, .int (v4 - x5)), (5, .int (v5 + (1 : Int32)))]) [2, 3, 4, 5, 1, 0] rfl ?_
    exact kc _ (Option.some.inj h).symm
set_option maxRecDepth 100000 in
set_option maxHeartbeats 4000000 in
theorem s_R_arrivals_l53 (C : kC p l e rm_R_arrivals s m args below meth c D (tyG cI cL cZ) A 9 cX5_arrivals yX5_arrivals.cls (Cond.code yX5_arrivals cX5_arrivals 9 (some .int) :: WS) (some .int)) {a_this : Nat} {a_gravel : Nat} {a_kind : Nat} {a_own : Nat} {a_likely : Nat} {a_tape : Nat} {a_holding : Nat} {a_rowLength : Nat} {a_rowOf : Nat} {a_refusals : Nat} {a_old : Nat} {a_ahead : Nat} {a_cost : Nat} {a_may : Nat} {a_rest : Nat} {a_way : Nat} {v1 : Int32} {v2 : Int32} {v3 : Int32} {v4 : Int32} {v5 : Int32} {c_n : Int32} {c_rain : Int32} {c_ear : Int32} {c_many : Int32} {c_seed : Int32} {c_taped : Int32} {c_from : Int32} {c_to : Int32} {c_token : Int32} {c_value : Int32} {c_imaged : Int32} {c_gravel : (Nat → Int32)} {c_kind : (Nat → Int32)} {c_own : (Nat → Int32)} {c_likely : (Nat → Int32)} {c_refusals : (Nat → Int32)} {x : Int32} (h : f_R_arrivals_l53 c_likely v4 v5 = some x)
    (k0 : kW p l e rm_R_arrivals s m args below meth c D A 9 (cells_R_arrivals cI cL cZ a_this a_gravel a_kind a_own a_likely a_tape a_holding a_rowLength a_rowOf a_refusals a_old a_ahead a_cost a_may a_rest a_way c_n c_rain c_ear c_many c_seed c_taped c_from c_to c_token c_value c_imaged c_gravel c_kind c_own c_likely c_refusals) [(0, .ref a_this), (1, .int v1), (2, .int v2), (3, .int v3), (5, .int x)] Q 83 []) :
    kW p l e rm_R_arrivals s m args below meth c D A 9 (cells_R_arrivals cI cL cZ a_this a_gravel a_kind a_own a_likely a_tape a_holding a_rowLength a_rowOf a_refusals a_old a_ahead a_cost a_may a_rest a_way c_n c_rain c_ear c_many c_seed c_taped c_from c_to c_token c_value c_imaged c_gravel c_kind c_own c_likely c_refusals) [(0, .ref a_this), (1, .int v1), (2, .int v2), (3, .int v3), (4, .int v4), (5, .int v5)] Q 53 [] := by
  unfold f_R_arrivals_l53 at h
  exact iter_W (T := fun sg => kW p l e rm_R_arrivals s m args below meth c D A 9 (cells_R_arrivals cI cL cZ a_this a_gravel a_kind a_own a_likely a_tape a_holding a_rowLength a_rowOf a_refusals a_old a_ahead a_cost a_may a_rest a_way c_n c_rain c_ear c_many c_seed c_taped c_from c_to c_token c_value c_imaged c_gravel c_kind c_own c_likely c_refusals) [(0, .ref a_this), (1, .int v1), (2, .int v2), (3, .int v3), (4, .int sg.1), (5, .int sg.2)] Q 53 []) (fun sg y hy hc _ hr => s_R_arrivals_b53 C hy (fun s' e => hc s' e) (fun r e => by rw [hr r e]; exact k0)) FUEL _ h
set_option maxRecDepth 100000 in
set_option maxHeartbeats 4000000 in
theorem s_R_arrivals_b99 (C : kC p l e rm_R_arrivals s m args below meth c D (tyG cI cL cZ) A 9 cX5_arrivals yX5_arrivals.cls (Cond.code yX5_arrivals cX5_arrivals 9 (some .int) :: WS) (some .int)) {a_this : Nat} {a_gravel : Nat} {a_kind : Nat} {a_own : Nat} {a_likely : Nat} {a_tape : Nat} {a_holding : Nat} {a_rowLength : Nat} {a_rowOf : Nat} {a_refusals : Nat} {a_old : Nat} {a_ahead : Nat} {a_cost : Nat} {a_may : Nat} {a_rest : Nat} {a_way : Nat} {v1 : Int32} {v2 : Int32} {v3 : Int32} {v5 : Int32} {v6 : Int32} {v7 : Int32} {v8 : Int32} {c_n : Int32} {c_rain : Int32} {c_ear : Int32} {c_many : Int32} {c_seed : Int32} {c_taped : Int32} {c_from : Int32} {c_to : Int32} {c_token : Int32} {c_value : Int32} {c_imaged : Int32} {c_gravel : (Nat → Int32)} {c_kind : (Nat → Int32)} {c_own : (Nat → Int32)} {c_likely : (Nat → Int32)} {c_refusals : (Nat → Int32)} {x : ((Int32 × Int32) ⊕ Int32)} (h : f_R_arrivals_b99 v5 v6 c_n c_rain c_many c_gravel c_kind c_own v7 v8 = some x)
    (kc : ∀ s', x = .inl s' → kW p l e rm_R_arrivals s m args below meth c D A 9 (cells_R_arrivals cI cL cZ a_this a_gravel a_kind a_own a_likely a_tape a_holding a_rowLength a_rowOf a_refusals a_old a_ahead a_cost a_may a_rest a_way c_n c_rain c_ear c_many c_seed c_taped c_from c_to c_token c_value c_imaged c_gravel c_kind c_own c_likely c_refusals) [(0, .ref a_this), (1, .int v1), (2, .int v2), (3, .int v3), (5, .int v5), (6, .int v6), (7, .int s'.1), (8, .int s'.2)] Q 99 [])
    (k0 : ∀ r, x = .inr r → kW p l e rm_R_arrivals s m args below meth c D A 9 (cells_R_arrivals cI cL cZ a_this a_gravel a_kind a_own a_likely a_tape a_holding a_rowLength a_rowOf a_refusals a_old a_ahead a_cost a_may a_rest a_way c_n c_rain c_ear c_many c_seed c_taped c_from c_to c_token c_value c_imaged c_gravel c_kind c_own c_likely c_refusals) [(0, .ref a_this), (1, .int v1), (2, .int v2), (3, .int v3), (5, .int v5), (7, .int r)] Q 137 []) :
    kW p l e rm_R_arrivals s m args below meth c D A 9 (cells_R_arrivals cI cL cZ a_this a_gravel a_kind a_own a_likely a_tape a_holding a_rowLength a_rowOf a_refusals a_old a_ahead a_cost a_may a_rest a_way c_n c_rain c_ear c_many c_seed c_taped c_from c_to c_token c_value c_imaged c_gravel c_kind c_own c_likely c_refusals) [(0, .ref a_this), (1, .int v1), (2, .int v2), (3, .int v3), (5, .int v5), (6, .int v6), (7, .int v7), (8, .int v8)] Q 99 [] := by
  unfold f_R_arrivals_b99 at h
  refine k_iload C dX5_arrivals_99 7 rfl ?_
  refine k_aload_n C dX5_arrivals_101 0 rfl rfl ?_
  refine k_get C (C0 := RX5) (T := TX5) (N := 26) (fun w h => List.mem_cons_of_mem _ (us_R w h)) 0 rfl rfl 4 (by decide) (List.mem_cons_of_mem _ wq_540) rfl rfl dX5_arrivals_102 ?_
  refine k_icmp_ge C (tgt := 137) dX5_arrivals_105 (by decide) (fun c_105 => ?_) (fun c_105 => ?_)
  · have h := ifT c_105 h
    refine k_lv (lv' := [(0, .ref a_this), (1, .int v1), (2, .int v2), (3, .int v3), (5, .int v5), (7, .int v7)]) [0, 1, 2, 3, 4, 6] rfl ?_
    exact k0 _ (Option.some.inj h).symm
  · have h := ifF c_105 h
    refine k_aload_n C dX5_arrivals_108 0 rfl rfl ?_
    refine k_iload C dX5_arrivals_109 4 rfl ?_
    refine k_iload C dX5_arrivals_111 7 rfl ?_
    refine k_iload C dX5_arrivals_113 5 rfl ?_
    obtain ⟨x8, hx8, h⟩ := bindE h
    refine kcallR_i C (wc := (cells_R_gapOf cI cL cZ a_this a_gravel a_kind a_own a_likely a_tape a_holding a_rowLength a_rowOf a_refusals a_old a_ahead a_cost a_may a_rest a_way c_n c_rain c_ear c_many c_seed c_taped c_from c_to c_token c_value c_imaged c_gravel c_kind c_own)) (r := x8) [0, 1, 2, 3] (fun H locs ls hP hD hS hF hz => krunV C (q0 := 0) (ci := 5) (c_R_gapOf l D cI cL cZ H.size a_this a_gravel a_kind a_own a_likely a_tape a_holding a_rowLength a_rowOf a_refusals a_old a_ahead a_cost a_may a_rest a_way v5 v8 v6 c_n c_rain c_ear c_many c_seed c_taped c_from c_to c_token c_value c_imaged c_gravel c_kind c_own x8 hx8) (cwV 3 C.2.2.2.2.1 (gV wq_722 wq_723 wq_724 wq_544 wq_721) rfl rfl rfl (by decide +kernel) ⟨(Nat.le_of_ble_eq_true rfl), (Nat.le_of_ble_eq_true rfl)⟩) rfl rfl kEnv_T rfl rfl (Nat.le_of_ble_eq_true rfl) dX5_arrivals_115 hP hD hz) rfl (by decide) ?_
    refine k_iconst C (v := (-1 : Int32)) dX5_arrivals_118 (by decide) ?_
    refine k_icmp_ne C (tgt := 131) dX5_arrivals_119 (by decide) (fun c_119 => ?_) (fun c_119 => ?_)
    · have h := ifF c_119 h
      refine k_iinc C (v := (v8 + (1 : Int32))) (lv' := [(8, .int (v8 + (1 : Int32))), (0, .ref a_this), (1, .int v1), (2, .int v2), (3, .int v3), (5, .int v5), (6, .int v6), (7, .int v7)]) dX5_arrivals_131 7 rfl rfl (by decide) rfl ?_
      refine k_goto C (tgt := 99) dX5_arrivals_134 (by decide) ?_
      refine k_lv (lv' := [(0, .ref a_this), (1, .int v1), (2, .int v2), (3, .int v3), (5, .int v5), (6, .int v6), (7, .int v7), (8, .int (v8 + (1 : Int32)))]) [1, 2, 3, 4, 5, 6, 7, 0] rfl ?_
      exact kc _ (Option.some.inj h).symm
    · have h := ifT c_119 h
      refine k_iload C dX5_arrivals_122 6 rfl ?_
      refine k_iconst C (v := (1 : Int32)) dX5_arrivals_124 (by decide) ?_
      refine k_iload C dX5_arrivals_125 7 rfl ?_
      refine k_ishl C dX5_arrivals_127 ?_
      refine k_ior C dX5_arrivals_128 ?_
      refine k_istore C (lv' := [(7, .int (v7 ||| ((1 : Int32) <<< (v8 &&& 31)))), (0, .ref a_this), (1, .int v1), (2, .int v2), (3, .int v3), (5, .int v5), (6, .int v6), (8, .int v8)]) dX5_arrivals_129 (by decide) rfl ?_
      refine k_iinc C (v := (v8 + (1 : Int32))) (lv' := [(8, .int (v8 + (1 : Int32))), (7, .int (v7 ||| ((1 : Int32) <<< (v8 &&& 31)))), (0, .ref a_this), (1, .int v1), (2, .int v2), (3, .int v3), (5, .int v5), (6, .int v6)]) dX5_arrivals_131 7 rfl rfl (by decide) rfl ?_
      refine k_goto C (tgt := 99) dX5_arrivals_134 (by decide) ?_
      refine k_lv (lv' := [(0, .ref a_this), (1, .int v1), (2, .int v2), (3, .int v3), (5, .int v5), (6, .int v6), (7, .int (v7 ||| ((1 : Int32) <<< (v8 &&& 31)))), (8, .int (v8 + (1 : Int32)))]) [2, 3, 4, 5, 6, 7, 1, 0] rfl ?_
      exact kc _ (Option.some.inj h).symm
set_option maxRecDepth 100000 in
set_option maxHeartbeats 4000000 in
theorem s_R_arrivals_l99 (C : kC p l e rm_R_arrivals s m args below meth c D (tyG cI cL cZ) A 9 cX5_arrivals yX5_arrivals.cls (Cond.code yX5_arrivals cX5_arrivals 9 (some .int) :: WS) (some .int)) {a_this : Nat} {a_gravel : Nat} {a_kind : Nat} {a_own : Nat} {a_likely : Nat} {a_tape : Nat} {a_holding : Nat} {a_rowLength : Nat} {a_rowOf : Nat} {a_refusals : Nat} {a_old : Nat} {a_ahead : Nat} {a_cost : Nat} {a_may : Nat} {a_rest : Nat} {a_way : Nat} {v1 : Int32} {v2 : Int32} {v3 : Int32} {v5 : Int32} {v6 : Int32} {v7 : Int32} {v8 : Int32} {c_n : Int32} {c_rain : Int32} {c_ear : Int32} {c_many : Int32} {c_seed : Int32} {c_taped : Int32} {c_from : Int32} {c_to : Int32} {c_token : Int32} {c_value : Int32} {c_imaged : Int32} {c_gravel : (Nat → Int32)} {c_kind : (Nat → Int32)} {c_own : (Nat → Int32)} {c_likely : (Nat → Int32)} {c_refusals : (Nat → Int32)} {x : Int32} (h : f_R_arrivals_l99 v5 v6 c_n c_rain c_many c_gravel c_kind c_own v7 v8 = some x)
    (k0 : kW p l e rm_R_arrivals s m args below meth c D A 9 (cells_R_arrivals cI cL cZ a_this a_gravel a_kind a_own a_likely a_tape a_holding a_rowLength a_rowOf a_refusals a_old a_ahead a_cost a_may a_rest a_way c_n c_rain c_ear c_many c_seed c_taped c_from c_to c_token c_value c_imaged c_gravel c_kind c_own c_likely c_refusals) [(0, .ref a_this), (1, .int v1), (2, .int v2), (3, .int v3), (5, .int v5), (7, .int x)] Q 137 []) :
    kW p l e rm_R_arrivals s m args below meth c D A 9 (cells_R_arrivals cI cL cZ a_this a_gravel a_kind a_own a_likely a_tape a_holding a_rowLength a_rowOf a_refusals a_old a_ahead a_cost a_may a_rest a_way c_n c_rain c_ear c_many c_seed c_taped c_from c_to c_token c_value c_imaged c_gravel c_kind c_own c_likely c_refusals) [(0, .ref a_this), (1, .int v1), (2, .int v2), (3, .int v3), (5, .int v5), (6, .int v6), (7, .int v7), (8, .int v8)] Q 99 [] := by
  unfold f_R_arrivals_l99 at h
  exact iter_W (T := fun sg => kW p l e rm_R_arrivals s m args below meth c D A 9 (cells_R_arrivals cI cL cZ a_this a_gravel a_kind a_own a_likely a_tape a_holding a_rowLength a_rowOf a_refusals a_old a_ahead a_cost a_may a_rest a_way c_n c_rain c_ear c_many c_seed c_taped c_from c_to c_token c_value c_imaged c_gravel c_kind c_own c_likely c_refusals) [(0, .ref a_this), (1, .int v1), (2, .int v2), (3, .int v3), (5, .int v5), (6, .int v6), (7, .int sg.1), (8, .int sg.2)] Q 99 []) (fun sg y hy hc _ hr => s_R_arrivals_b99 C hy (fun s' e => hc s' e) (fun r e => by rw [hr r e]; exact k0)) FUEL _ h
set_option maxRecDepth 100000 in
set_option maxHeartbeats 4000000 in
theorem s_R_arrivals_b35 (C : kC p l e rm_R_arrivals s m args below meth c D (tyG cI cL cZ) A 9 cX5_arrivals yX5_arrivals.cls (Cond.code yX5_arrivals cX5_arrivals 9 (some .int) :: WS) (some .int)) {a_this : Nat} {a_gravel : Nat} {a_kind : Nat} {a_own : Nat} {a_likely : Nat} {a_tape : Nat} {a_holding : Nat} {a_rowLength : Nat} {a_rowOf : Nat} {a_refusals : Nat} {a_old : Nat} {a_ahead : Nat} {a_cost : Nat} {a_may : Nat} {a_rest : Nat} {a_way : Nat} {v1 : Int32} {v2 : Int32} {v3 : Int32} {c_n : Int32} {c_rain : Int32} {c_ear : Int32} {c_many : Int32} {c_seed : Int32} {c_taped : Int32} {c_from : Int32} {c_to : Int32} {c_token : Int32} {c_value : Int32} {c_imaged : Int32} {c_gravel : (Nat → Int32)} {c_kind : (Nat → Int32)} {c_own : (Nat → Int32)} {c_likely : (Nat → Int32)} {c_refusals : (Nat → Int32)} {x : ((Int32 × Int32 × Int32) ⊕ (Int32 × Int32))} (h : f_R_arrivals_b35 v1 c_n c_rain c_many c_gravel c_kind c_own c_likely v2 v3 c_seed = some x)
    (kc : ∀ s', x = .inl s' → kW p l e rm_R_arrivals s m args below meth c D A 9 (cells_R_arrivals cI cL cZ a_this a_gravel a_kind a_own a_likely a_tape a_holding a_rowLength a_rowOf a_refusals a_old a_ahead a_cost a_may a_rest a_way c_n c_rain c_ear c_many s'.2.2 c_taped c_from c_to c_token c_value c_imaged c_gravel c_kind c_own c_likely c_refusals) [(0, .ref a_this), (1, .int v1), (2, .int s'.1), (3, .int s'.2.1)] Q 35 [])
    (k0 : ∀ r, x = .inr r → kW p l e rm_R_arrivals s m args below meth c D A 9 (cells_R_arrivals cI cL cZ a_this a_gravel a_kind a_own a_likely a_tape a_holding a_rowLength a_rowOf a_refusals a_old a_ahead a_cost a_may a_rest a_way c_n c_rain c_ear c_many r.2 c_taped c_from c_to c_token c_value c_imaged c_gravel c_kind c_own c_likely c_refusals) [(2, .int r.1)] Q 157 []) :
    kW p l e rm_R_arrivals s m args below meth c D A 9 (cells_R_arrivals cI cL cZ a_this a_gravel a_kind a_own a_likely a_tape a_holding a_rowLength a_rowOf a_refusals a_old a_ahead a_cost a_may a_rest a_way c_n c_rain c_ear c_many c_seed c_taped c_from c_to c_token c_value c_imaged c_gravel c_kind c_own c_likely c_refusals) [(0, .ref a_this), (1, .int v1), (2, .int v2), (3, .int v3)] Q 35 [] := by
  unfold f_R_arrivals_b35 at h
  refine k_iload_n C dX5_arrivals_35 3 rfl rfl ?_
  refine k_iload_n C dX5_arrivals_36 1 rfl rfl ?_
  refine k_icmp_ge C (tgt := 157) dX5_arrivals_37 (by decide) (fun c_37 => ?_) (fun c_37 => ?_)
  · have h := ifT c_37 h
    refine k_lv (lv' := [(2, .int v2)]) [2] rfl ?_
    exact k0 _ (Option.some.inj h).symm
  · have h := ifF c_37 h
    refine k_aload_n C dX5_arrivals_40 0 rfl rfl ?_
    refine k_aload_n C dX5_arrivals_41 0 rfl rfl ?_
    obtain ⟨x2, hx2, h⟩ := bindE h
    refine kcallR_i C (wc := (cells_R_allLikely cI cL cZ a_this a_gravel a_kind a_own a_likely a_tape a_holding a_rowLength a_rowOf a_refusals a_old a_ahead a_cost a_may a_rest a_way c_n c_rain c_ear c_many c_seed c_taped c_from c_to c_token c_value c_imaged c_likely)) (r := x2) [0, 4] (fun H locs ls hP hD hS hF hz => krunV C (q0 := 0) (ci := 5) (c_R_allLikely l D cI cL cZ H.size a_this a_gravel a_kind a_own a_likely a_tape a_holding a_rowLength a_rowOf a_refusals a_old a_ahead a_cost a_may a_rest a_way c_n c_rain c_ear c_many c_seed c_taped c_from c_to c_token c_value c_imaged c_likely x2 hx2) (cwV 0 C.2.2.2.2.1 (gV wq_730 wq_731 wq_732 wq_544 wq_729) rfl rfl rfl (by decide +kernel) ⟨(Nat.le_of_ble_eq_true rfl), (Nat.le_of_ble_eq_true rfl)⟩) rfl rfl kEnv_T rfl rfl (Nat.le_of_ble_eq_true rfl) dX5_arrivals_42 hP hD hz) rfl (by decide) ?_
    obtain ⟨x3, hx3, h⟩ := bindE h
    refine kcallU_i C (wc := (cells_R_draw cI cL cZ a_this a_gravel a_kind a_own a_likely a_tape a_holding a_rowLength a_rowOf a_refusals a_old a_ahead a_cost a_may a_rest a_way c_n c_rain c_ear c_many c_seed c_taped c_from c_to c_token c_value c_imaged)) (w1 := (cells_R_draw cI cL cZ a_this a_gravel a_kind a_own a_likely a_tape a_holding a_rowLength a_rowOf a_refusals a_old a_ahead a_cost a_may a_rest a_way c_n c_rain c_ear c_many x3.2 c_taped c_from c_to c_token c_value c_imaged)) (ws' := (cells_R_arrivals cI cL cZ a_this a_gravel a_kind a_own a_likely a_tape a_holding a_rowLength a_rowOf a_refusals a_old a_ahead a_cost a_may a_rest a_way c_n c_rain c_ear c_many x3.2 c_taped c_from c_to c_token c_value c_imaged c_gravel c_kind c_own c_likely c_refusals)) (r := x3.1) [0] (fun H locs ls hP hD hS hF hz => krunV C (q0 := 0) (ci := 5) (c_R_draw l D cI cL cZ H.size a_this a_gravel a_kind a_own a_likely a_tape a_holding a_rowLength a_rowOf a_refusals a_old a_ahead a_cost a_may a_rest a_way x2 c_n c_rain c_ear c_many c_seed c_taped c_from c_to c_token c_value c_imaged x3 hx3) (cwV 1 C.2.2.2.2.1 (gV wq_783 wq_784 wq_785 wq_544 wq_782) rfl rfl rfl (by decide +kernel) ⟨(Nat.le_of_ble_eq_true rfl), (Nat.le_of_ble_eq_true rfl)⟩) rfl rfl kEnv_T rfl rfl (Nat.le_of_ble_eq_true rfl) dX5_arrivals_45 hP hD hz) rfl (by decide) rfl rfl ?_
    refine k_istore C (lv' := [(4, .int x3.1), (0, .ref a_this), (1, .int v1), (2, .int v2), (3, .int v3)]) dX5_arrivals_48 (by decide) rfl ?_
    refine k_iconst C (v := (0 : Int32)) dX5_arrivals_50 (by decide) ?_
    refine k_istore C (lv' := [(5, .int (0 : Int32)), (4, .int x3.1), (0, .ref a_this), (1, .int v1), (2, .int v2), (3, .int v3)]) dX5_arrivals_51 (by decide) rfl ?_
    obtain ⟨x6, hx6, h⟩ := bindE h
    refine k_lv (lv' := [(0, .ref a_this), (1, .int v1), (2, .int v2), (3, .int v3), (4, .int x3.1), (5, .int (0 : Int32))]) [2, 3, 4, 5, 1, 0] rfl ?_
    refine s_R_arrivals_l53 C hx6 ?_
    refine k_aload_n C dX5_arrivals_83 0 rfl rfl ?_
    refine k_aload_n C dX5_arrivals_84 0 rfl rfl ?_
    refine k_get C (C0 := RX5) (T := TX5) (N := 26) (fun w h => List.mem_cons_of_mem _ (us_R w h)) 0 rfl rfl 0 (by decide) (List.mem_cons_of_mem _ wq_545) rfl rfl dX5_arrivals_85 ?_
    obtain ⟨x7, hx7, h⟩ := bindE h
    refine kcallU_i C (wc := (cells_R_draw cI cL cZ a_this a_gravel a_kind a_own a_likely a_tape a_holding a_rowLength a_rowOf a_refusals a_old a_ahead a_cost a_may a_rest a_way c_n c_rain c_ear c_many x3.2 c_taped c_from c_to c_token c_value c_imaged)) (w1 := (cells_R_draw cI cL cZ a_this a_gravel a_kind a_own a_likely a_tape a_holding a_rowLength a_rowOf a_refusals a_old a_ahead a_cost a_may a_rest a_way c_n c_rain c_ear c_many x7.2 c_taped c_from c_to c_token c_value c_imaged)) (ws' := (cells_R_arrivals cI cL cZ a_this a_gravel a_kind a_own a_likely a_tape a_holding a_rowLength a_rowOf a_refusals a_old a_ahead a_cost a_may a_rest a_way c_n c_rain c_ear c_many x7.2 c_taped c_from c_to c_token c_value c_imaged c_gravel c_kind c_own c_likely c_refusals)) (r := x7.1) [0] (fun H locs ls hP hD hS hF hz => krunV C (q0 := 0) (ci := 5) (c_R_draw l D cI cL cZ H.size a_this a_gravel a_kind a_own a_likely a_tape a_holding a_rowLength a_rowOf a_refusals a_old a_ahead a_cost a_may a_rest a_way c_n c_n c_rain c_ear c_many x3.2 c_taped c_from c_to c_token c_value c_imaged x7 hx7) (cwV 1 C.2.2.2.2.1 (gV wq_783 wq_784 wq_785 wq_544 wq_782) rfl rfl rfl (by decide +kernel) ⟨(Nat.le_of_ble_eq_true rfl), (Nat.le_of_ble_eq_true rfl)⟩) rfl rfl kEnv_T rfl rfl (Nat.le_of_ble_eq_true rfl) dX5_arrivals_88 hP hD hz) rfl (by decide) rfl rfl ?_
    refine k_istore C (lv' := [(6, .int x7.1), (0, .ref a_this), (1, .int v1), (2, .int v2), (3, .int v3), (5, .int x6)]) dX5_arrivals_91 (by decide) rfl ?_
    refine k_iconst C (v := (0 : Int32)) dX5_arrivals_93 (by decide) ?_
    refine k_istore C (lv' := [(7, .int (0 : Int32)), (6, .int x7.1), (0, .ref a_this), (1, .int v1), (2, .int v2), (3, .int v3), (5, .int x6)]) dX5_arrivals_94 (by decide) rfl ?_
    refine k_iconst C (v := (0 : Int32)) dX5_arrivals_96 (by decide) ?_
    refine k_istore C (lv' := [(8, .int (0 : Int32)), (7, .int (0 : Int32)), (6, .int x7.1), (0, .ref a_this), (1, .int v1), (2, .int v2), (3, .int v3), (5, .int x6)]) dX5_arrivals_97 (by decide) rfl ?_
    obtain ⟨x9, hx9, h⟩ := bindE h
    refine k_lv (lv' := [(0, .ref a_this), (1, .int v1), (2, .int v2), (3, .int v3), (5, .int x6), (6, .int x7.1), (7, .int (0 : Int32)), (8, .int (0 : Int32))]) [3, 4, 5, 6, 7, 2, 1, 0] rfl ?_
    refine s_R_arrivals_l99 C hx9 ?_
    refine k_aload_n C dX5_arrivals_137 0 rfl rfl ?_
    refine k_iload C dX5_arrivals_138 5 rfl ?_
    obtain ⟨x10, hx10, h⟩ := bindE h
    refine kcallR_i C (wc := (cells_R_likeliest cI cL cZ a_this a_gravel a_kind a_own a_likely a_tape a_holding a_rowLength a_rowOf a_refusals a_old a_ahead a_cost a_may a_rest a_way c_n c_rain c_ear c_many x7.2 c_taped c_from c_to c_token c_value c_imaged c_likely)) (r := x10) [0, 4] (fun H locs ls hP hD hS hF hz => krunV C (q0 := 0) (ci := 5) (c_R_likeliest l D cI cL cZ H.size a_this a_gravel a_kind a_own a_likely a_tape a_holding a_rowLength a_rowOf a_refusals a_old a_ahead a_cost a_may a_rest a_way x9 c_n c_rain c_ear c_many x7.2 c_taped c_from c_to c_token c_value c_imaged c_likely x10 hx10) (cwV 1 C.2.2.2.2.1 (gV wq_750 wq_751 wq_752 wq_544 wq_749) rfl rfl rfl (by decide +kernel) ⟨(Nat.le_of_ble_eq_true rfl), (Nat.le_of_ble_eq_true rfl)⟩) rfl rfl kEnv_T rfl rfl (Nat.le_of_ble_eq_true rfl) dX5_arrivals_140 hP hD hz) rfl (by decide) ?_
    refine k_iload C dX5_arrivals_143 4 rfl ?_
    refine k_icmp_ne C (tgt := 151) dX5_arrivals_145 (by decide) (fun c_145 => ?_) (fun c_145 => ?_)
    · have h := ifF c_145 h
      refine k_iinc C (v := (v3 + (1 : Int32))) (lv' := [(3, .int (v3 + (1 : Int32))), (0, .ref a_this), (1, .int v1), (2, .int v2), (5, .int x6), (7, .int x9)]) dX5_arrivals_151 3 rfl rfl (by decide) rfl ?_
      refine k_goto C (tgt := 35) dX5_arrivals_154 (by decide) ?_
      refine k_lv (lv' := [(0, .ref a_this), (1, .int v1), (2, .int v2), (3, .int (v3 + (1 : Int32)))]) [1, 2, 3, 0] rfl ?_
      exact kc _ (Option.some.inj h).symm
    · have h := ifT c_145 h
      refine k_iinc C (v := (v2 + (1 : Int32))) (lv' := [(2, .int (v2 + (1 : Int32))), (0, .ref a_this), (1, .int v1), (3, .int v3), (5, .int x6), (7, .int x9)]) dX5_arrivals_148 2 rfl rfl (by decide) rfl ?_
      refine k_iinc C (v := (v3 + (1 : Int32))) (lv' := [(3, .int (v3 + (1 : Int32))), (2, .int (v2 + (1 : Int32))), (0, .ref a_this), (1, .int v1), (5, .int x6), (7, .int x9)]) dX5_arrivals_151 3 rfl rfl (by decide) rfl ?_
      refine k_goto C (tgt := 35) dX5_arrivals_154 (by decide) ?_
      refine k_lv (lv' := [(0, .ref a_this), (1, .int v1), (2, .int (v2 + (1 : Int32))), (3, .int (v3 + (1 : Int32)))]) [2, 3, 1, 0] rfl ?_
      exact kc _ (Option.some.inj h).symm
set_option maxRecDepth 100000 in
set_option maxHeartbeats 4000000 in
theorem s_R_arrivals_l35 (C : kC p l e rm_R_arrivals s m args below meth c D (tyG cI cL cZ) A 9 cX5_arrivals yX5_arrivals.cls (Cond.code yX5_arrivals cX5_arrivals 9 (some .int) :: WS) (some .int)) {a_this : Nat} {a_gravel : Nat} {a_kind : Nat} {a_own : Nat} {a_likely : Nat} {a_tape : Nat} {a_holding : Nat} {a_rowLength : Nat} {a_rowOf : Nat} {a_refusals : Nat} {a_old : Nat} {a_ahead : Nat} {a_cost : Nat} {a_may : Nat} {a_rest : Nat} {a_way : Nat} {v1 : Int32} {v2 : Int32} {v3 : Int32} {c_n : Int32} {c_rain : Int32} {c_ear : Int32} {c_many : Int32} {c_seed : Int32} {c_taped : Int32} {c_from : Int32} {c_to : Int32} {c_token : Int32} {c_value : Int32} {c_imaged : Int32} {c_gravel : (Nat → Int32)} {c_kind : (Nat → Int32)} {c_own : (Nat → Int32)} {c_likely : (Nat → Int32)} {c_refusals : (Nat → Int32)} {x : (Int32 × Int32)} (h : f_R_arrivals_l35 v1 c_n c_rain c_many c_gravel c_kind c_own c_likely v2 v3 c_seed = some x)
    (k0 : kW p l e rm_R_arrivals s m args below meth c D A 9 (cells_R_arrivals cI cL cZ a_this a_gravel a_kind a_own a_likely a_tape a_holding a_rowLength a_rowOf a_refusals a_old a_ahead a_cost a_may a_rest a_way c_n c_rain c_ear c_many x.2 c_taped c_from c_to c_token c_value c_imaged c_gravel c_kind c_own c_likely c_refusals) [(2, .int x.1)] Q 157 []) :
    kW p l e rm_R_arrivals s m args below meth c D A 9 (cells_R_arrivals cI cL cZ a_this a_gravel a_kind a_own a_likely a_tape a_holding a_rowLength a_rowOf a_refusals a_old a_ahead a_cost a_may a_rest a_way c_n c_rain c_ear c_many c_seed c_taped c_from c_to c_token c_value c_imaged c_gravel c_kind c_own c_likely c_refusals) [(0, .ref a_this), (1, .int v1), (2, .int v2), (3, .int v3)] Q 35 [] := by
  unfold f_R_arrivals_l35 at h
  exact iter_W (T := fun sg => kW p l e rm_R_arrivals s m args below meth c D A 9 (cells_R_arrivals cI cL cZ a_this a_gravel a_kind a_own a_likely a_tape a_holding a_rowLength a_rowOf a_refusals a_old a_ahead a_cost a_may a_rest a_way c_n c_rain c_ear c_many sg.2.2 c_taped c_from c_to c_token c_value c_imaged c_gravel c_kind c_own c_likely c_refusals) [(0, .ref a_this), (1, .int v1), (2, .int sg.1), (3, .int sg.2.1)] Q 35 []) (fun sg y hy hc _ hr => s_R_arrivals_b35 C hy (fun s' e => hc s' e) (fun r e => by rw [hr r e]; exact k0)) FUEL _ h
set_option maxRecDepth 100000 in
set_option maxHeartbeats 4000000 in
theorem s_R_arrivals (C : kC p l e rm_R_arrivals s m args below meth c D (tyG cI cL cZ) A 9 cX5_arrivals yX5_arrivals.cls (Cond.code yX5_arrivals cX5_arrivals 9 (some .int) :: WS) (some .int)) {a_this : Nat} {a_gravel : Nat} {a_kind : Nat} {a_own : Nat} {a_likely : Nat} {a_tape : Nat} {a_holding : Nat} {a_rowLength : Nat} {a_rowOf : Nat} {a_refusals : Nat} {a_old : Nat} {a_ahead : Nat} {a_cost : Nat} {a_may : Nat} {a_rest : Nat} {a_way : Nat} {v1 : Int32} {c_n : Int32} {c_rain : Int32} {c_ear : Int32} {c_many : Int32} {c_seed : Int32} {c_taped : Int32} {c_from : Int32} {c_to : Int32} {c_token : Int32} {c_value : Int32} {c_imaged : Int32} {c_gravel : (Nat → Int32)} {c_kind : (Nat → Int32)} {c_own : (Nat → Int32)} {c_likely : (Nat → Int32)} {c_refusals : (Nat → Int32)} {x : (Int32 × Int32 × (Nat → Int32))} (h : f_R_arrivals v1 c_n c_rain c_many c_seed c_gravel c_kind c_own c_likely c_refusals = some x) :
    kW p l e rm_R_arrivals s m args below meth c D A 9 (cells_R_arrivals cI cL cZ a_this a_gravel a_kind a_own a_likely a_tape a_holding a_rowLength a_rowOf a_refusals a_old a_ahead a_cost a_may a_rest a_way c_n c_rain c_ear c_many c_seed c_taped c_from c_to c_token c_value c_imaged c_gravel c_kind c_own c_likely c_refusals) [(0, .ref a_this), (1, .int v1)] (MQ below (kQi D A (cells_R_arrivals cI cL cZ a_this a_gravel a_kind a_own a_likely a_tape a_holding a_rowLength a_rowOf a_refusals a_old a_ahead a_cost a_may a_rest a_way c_n c_rain c_ear c_many x.2.1 c_taped c_from c_to c_token c_value c_imaged c_gravel c_kind c_own c_likely x.2.2) x.1) args s 0 0 A) 0 [] := by
  unfold f_R_arrivals at h
  refine k_iload_n C dX5_arrivals_0 1 rfl rfl ?_
  refine k_iconst C (v := (1 : Int32)) dX5_arrivals_1 (by decide) ?_
  refine k_bipush C (v := (60 : Int32)) dX5_arrivals_2 (by decide) ?_
  obtain ⟨x1, hx1, h⟩ := bindE h
  refine kcallE_i C (r := x1) (fun H locs ls hP hD hS hF hz => krunS C (c_R_within l D cI cL cZ H.size v1 (1 : Int32) (60 : Int32) x1 hx1) (va_cwS 3 C.2.2.2.2.1 (gS wq_542 wq_543 wq_544 wq_541) rfl rfl rfl (by decide +kernel) ⟨(Nat.le_of_ble_eq_true rfl), (Nat.le_of_ble_eq_true rfl)⟩) kEnv_T rfl rfl (Nat.le_of_ble_eq_true rfl) dX5_arrivals_4 hP hD hz) ?_
  refine k_if_ne C (tgt := 17) dX5_arrivals_7 (by decide) (fun c_7 => ?_) (fun c_7 => ?_)
  · have h := ifF c_7 h
    refine k_aload_n C dX5_arrivals_17 0 rfl rfl ?_
    refine k_get C (C0 := RX5) (T := TX5) (N := 26) (fun w h => List.mem_cons_of_mem _ (us_R w h)) 0 rfl rfl 4 (by decide) (List.mem_cons_of_mem _ wq_540) rfl rfl dX5_arrivals_18 ?_
    refine k_if_ne C (tgt := 31) dX5_arrivals_21 (by decide) (fun c_21 => ?_) (fun c_21 => ?_)
    · have h := ifF c_21 h
      refine k_iconst C (v := (0 : Int32)) dX5_arrivals_31 (by decide) ?_
      refine k_istore_n C (lv' := [(2, .int (0 : Int32)), (0, .ref a_this), (1, .int v1)]) dX5_arrivals_32 rfl (by decide) rfl ?_
      refine k_iconst C (v := (0 : Int32)) dX5_arrivals_33 (by decide) ?_
      refine k_istore_n C (lv' := [(3, .int (0 : Int32)), (2, .int (0 : Int32)), (0, .ref a_this), (1, .int v1)]) dX5_arrivals_34 rfl (by decide) rfl ?_
      obtain ⟨x11, hx11, h⟩ := bindE h
      refine k_lv (lv' := [(0, .ref a_this), (1, .int v1), (2, .int (0 : Int32)), (3, .int (0 : Int32))]) [2, 3, 1, 0] rfl ?_
      refine s_R_arrivals_l35 C hx11 ?_
      refine k_iload_n C dX5_arrivals_157 0 rfl rfl ?_
      obtain rfl := Option.some.inj h
      exact kret_i C rfl dX5_arrivals_158
    · have h := ifT c_21 h
      refine k_aload_n C dX5_arrivals_24 0 rfl rfl ?_
      refine k_bipush C (v := (-5 : Int32)) dX5_arrivals_25 (by decide) ?_
      obtain ⟨x12, hx12, h⟩ := bindE h
      refine kcallU_i C (wc := (cells_R_no cI cL cZ a_this a_gravel a_kind a_own a_likely a_tape a_holding a_rowLength a_rowOf a_refusals a_old a_ahead a_cost a_may a_rest a_way c_n c_rain c_ear c_many c_seed c_taped c_from c_to c_token c_value c_imaged c_refusals)) (w1 := (cells_R_no cI cL cZ a_this a_gravel a_kind a_own a_likely a_tape a_holding a_rowLength a_rowOf a_refusals a_old a_ahead a_cost a_may a_rest a_way c_n c_rain c_ear c_many c_seed c_taped c_from c_to c_token c_value c_imaged x12.2)) (ws' := (cells_R_arrivals cI cL cZ a_this a_gravel a_kind a_own a_likely a_tape a_holding a_rowLength a_rowOf a_refusals a_old a_ahead a_cost a_may a_rest a_way c_n c_rain c_ear c_many c_seed c_taped c_from c_to c_token c_value c_imaged c_gravel c_kind c_own c_likely x12.2)) (r := x12.1) [0, 5] (fun H locs ls hP hD hS hF hz => krunV C (q0 := 0) (ci := 5) (c_R_no l D cI cL cZ H.size a_this a_gravel a_kind a_own a_likely a_tape a_holding a_rowLength a_rowOf a_refusals a_old a_ahead a_cost a_may a_rest a_way (-5 : Int32) c_n c_rain c_ear c_many c_seed c_taped c_from c_to c_token c_value c_imaged c_refusals x12 hx12) (cwV 1 C.2.2.2.2.1 (gV wq_551 wq_552 wq_553 wq_544 wq_550) rfl rfl rfl (by decide +kernel) ⟨(Nat.le_of_ble_eq_true rfl), (Nat.le_of_ble_eq_true rfl)⟩) rfl rfl kEnv_T rfl rfl (Nat.le_of_ble_eq_true rfl) dX5_arrivals_27 hP hD hz) rfl (by decide) rfl rfl ?_
      obtain rfl := Option.some.inj h
      exact kret_i C rfl dX5_arrivals_30
  · have h := ifT c_7 h
    refine k_aload_n C dX5_arrivals_10 0 rfl rfl ?_
    refine k_bipush C (v := (-2 : Int32)) dX5_arrivals_11 (by decide) ?_
    obtain ⟨x13, hx13, h⟩ := bindE h
    refine kcallU_i C (wc := (cells_R_no cI cL cZ a_this a_gravel a_kind a_own a_likely a_tape a_holding a_rowLength a_rowOf a_refusals a_old a_ahead a_cost a_may a_rest a_way c_n c_rain c_ear c_many c_seed c_taped c_from c_to c_token c_value c_imaged c_refusals)) (w1 := (cells_R_no cI cL cZ a_this a_gravel a_kind a_own a_likely a_tape a_holding a_rowLength a_rowOf a_refusals a_old a_ahead a_cost a_may a_rest a_way c_n c_rain c_ear c_many c_seed c_taped c_from c_to c_token c_value c_imaged x13.2)) (ws' := (cells_R_arrivals cI cL cZ a_this a_gravel a_kind a_own a_likely a_tape a_holding a_rowLength a_rowOf a_refusals a_old a_ahead a_cost a_may a_rest a_way c_n c_rain c_ear c_many c_seed c_taped c_from c_to c_token c_value c_imaged c_gravel c_kind c_own c_likely x13.2)) (r := x13.1) [0, 5] (fun H locs ls hP hD hS hF hz => krunV C (q0 := 0) (ci := 5) (c_R_no l D cI cL cZ H.size a_this a_gravel a_kind a_own a_likely a_tape a_holding a_rowLength a_rowOf a_refusals a_old a_ahead a_cost a_may a_rest a_way (-2 : Int32) c_n c_rain c_ear c_many c_seed c_taped c_from c_to c_token c_value c_imaged c_refusals x13 hx13) (cwV 1 C.2.2.2.2.1 (gV wq_551 wq_552 wq_553 wq_544 wq_550) rfl rfl rfl (by decide +kernel) ⟨(Nat.le_of_ble_eq_true rfl), (Nat.le_of_ble_eq_true rfl)⟩) rfl rfl kEnv_T rfl rfl (Nat.le_of_ble_eq_true rfl) dX5_arrivals_13 hP hD hz) rfl (by decide) rfl rfl ?_
    obtain rfl := Option.some.inj h
    exact kret_i C rfl dX5_arrivals_16
theorem c_R_arrivals (l : Launch) (D : va_G) (cI : ClassId) (cL : ClassId) (cZ : ClassId) (sz : Nat) (a_this : Nat) (a_gravel : Nat) (a_kind : Nat) (a_own : Nat) (a_likely : Nat) (a_tape : Nat) (a_holding : Nat) (a_rowLength : Nat) (a_rowOf : Nat) (a_refusals : Nat) (a_old : Nat) (a_ahead : Nat) (a_cost : Nat) (a_may : Nat) (a_rest : Nat) (a_way : Nat) (v1 : Int32) (c_n : Int32) (c_rain : Int32) (c_ear : Int32) (c_many : Int32) (c_seed : Int32) (c_taped : Int32) (c_from : Int32) (c_to : Int32) (c_token : Int32) (c_value : Int32) (c_imaged : Int32) (c_gravel : (Nat → Int32)) (c_kind : (Nat → Int32)) (c_own : (Nat → Int32)) (c_likely : (Nat → Int32)) (c_refusals : (Nat → Int32)) (x : (Int32 × Int32 × (Nat → Int32))) (h : f_R_arrivals v1 c_n c_rain c_many c_seed c_gravel c_kind c_own c_likely c_refusals = some x) :
    Met l yX5_arrivals (Cond.code yX5_arrivals cX5_arrivals 9 (some .int) :: WS) rm_R_arrivals (kP D (tyG cI cL cZ) kTrue [.ref a_this, .int v1] sz (cells_R_arrivals cI cL cZ a_this a_gravel a_kind a_own a_likely a_tape a_holding a_rowLength a_rowOf a_refusals a_old a_ahead a_cost a_may a_rest a_way c_n c_rain c_ear c_many c_seed c_taped c_from c_to c_token c_value c_imaged c_gravel c_kind c_own c_likely c_refusals)) (kQi D (va_A (cells_R_arrivals cI cL cZ a_this a_gravel a_kind a_own a_likely a_tape a_holding a_rowLength a_rowOf a_refusals a_old a_ahead a_cost a_may a_rest a_way c_n c_rain c_ear c_many c_seed c_taped c_from c_to c_token c_value c_imaged c_gravel c_kind c_own c_likely c_refusals) sz) (cells_R_arrivals cI cL cZ a_this a_gravel a_kind a_own a_likely a_tape a_holding a_rowLength a_rowOf a_refusals a_old a_ahead a_cost a_may a_rest a_way c_n c_rain c_ear c_many x.2.1 c_taped c_from c_to c_token c_value c_imaged c_gravel c_kind c_own c_likely x.2.2) x.1) 0 0 (va_A (cells_R_arrivals cI cL cZ a_this a_gravel a_kind a_own a_likely a_tape a_holding a_rowLength a_rowOf a_refusals a_old a_ahead a_cost a_may a_rest a_way c_n c_rain c_ear c_many c_seed c_taped c_from c_to c_token c_value c_imaged c_gravel c_kind c_own c_likely c_refusals) sz) :=
  kmet (by decide) (Nat.le_of_ble_eq_true rfl) rfl (fun p e s m below meth c C hE => s_R_arrivals C h)
abbrev cells_R_seed (cI : ClassId) (cL : ClassId) (cZ : ClassId) (a_this : Nat) (a_gravel : Nat) (a_kind : Nat) (a_own : Nat) (a_likely : Nat) (a_tape : Nat) (a_holding : Nat) (a_rowLength : Nat) (a_rowOf : Nat) (a_refusals : Nat) (a_old : Nat) (a_ahead : Nat) (a_cost : Nat) (a_may : Nat) (a_rest : Nat) (a_way : Nat) (c_n : Int32) (c_rain : Int32) (c_ear : Int32) (c_many : Int32) (c_seed : Int32) (c_taped : Int32) (c_from : Int32) (c_to : Int32) (c_token : Int32) (c_value : Int32) (c_imaged : Int32) : va_W := [(a_this, .inr (5, [.int c_n, .ref a_gravel, .int c_rain, .int c_ear, .int c_many, .ref a_kind, .ref a_own, .ref a_likely, .int c_seed, .int c_taped, .ref a_tape, .int c_from, .int c_to, .int c_token, .int c_value, .ref a_holding, .ref a_rowLength, .ref a_rowOf, .ref a_refusals, .int c_imaged, .ref a_old, .ref a_ahead, .ref a_cost, .ref a_may, .ref a_rest, .ref a_way]))]
abbrev rm_R_seed : Room := { frames := 0, cells := 0, slots := 0, locals := 0 }
set_option maxRecDepth 100000 in
set_option maxHeartbeats 4000000 in
theorem s_R_seed (C : kC p l e rm_R_seed s m args below meth c D (tyG cI cL cZ) A 3 cX5_seed yX5_seed.cls (Cond.code yX5_seed cX5_seed 3 (some .int) :: WS) (some .int)) {a_this : Nat} {a_gravel : Nat} {a_kind : Nat} {a_own : Nat} {a_likely : Nat} {a_tape : Nat} {a_holding : Nat} {a_rowLength : Nat} {a_rowOf : Nat} {a_refusals : Nat} {a_old : Nat} {a_ahead : Nat} {a_cost : Nat} {a_may : Nat} {a_rest : Nat} {a_way : Nat} {v1 : Int32} {c_n : Int32} {c_rain : Int32} {c_ear : Int32} {c_many : Int32} {c_seed : Int32} {c_taped : Int32} {c_from : Int32} {c_to : Int32} {c_token : Int32} {c_value : Int32} {c_imaged : Int32} {x : (Int32 × Int32)} (h : f_R_seed v1 c_seed = some x) :
    kW p l e rm_R_seed s m args below meth c D A 3 (cells_R_seed cI cL cZ a_this a_gravel a_kind a_own a_likely a_tape a_holding a_rowLength a_rowOf a_refusals a_old a_ahead a_cost a_may a_rest a_way c_n c_rain c_ear c_many c_seed c_taped c_from c_to c_token c_value c_imaged) [(0, .ref a_this), (1, .int v1)] (MQ below (kQi D A (cells_R_seed cI cL cZ a_this a_gravel a_kind a_own a_likely a_tape a_holding a_rowLength a_rowOf a_refusals a_old a_ahead a_cost a_may a_rest a_way c_n c_rain c_ear c_many x.2 c_taped c_from c_to c_token c_value c_imaged) x.1) args s 0 0 A) 0 [] := by
  unfold f_R_seed at h
  refine k_aload_n C dX5_seed_0 0 rfl rfl ?_
  refine k_get C (C0 := RX5) (T := TX5) (N := 26) (fun w h => List.mem_cons_of_mem _ (us_R w h)) 0 rfl rfl 8 (by decide) (List.mem_cons_of_mem _ wq_631) rfl rfl dX5_seed_1 ?_
  refine k_istore_n C (lv' := [(2, .int c_seed), (0, .ref a_this), (1, .int v1)]) dX5_seed_4 rfl (by decide) rfl ?_
  refine k_aload_n C dX5_seed_5 1 rfl rfl ?_
  refine k_iload_n C dX5_seed_6 2 rfl rfl ?_
  refine k_put C (C0 := RX5) (T := TX5) (N := 26) (ws' := (cells_R_seed cI cL cZ a_this a_gravel a_kind a_own a_likely a_tape a_holding a_rowLength a_rowOf a_refusals a_old a_ahead a_cost a_may a_rest a_way c_n c_rain c_ear c_many v1 c_taped c_from c_to c_token c_value c_imaged)) (fun w h => List.mem_cons_of_mem _ (us_R w h)) tyX5 tyX5_ok nmX5 0 rfl rfl 8 (by decide) (List.mem_cons_of_mem _ wq_631) rfl rfl (tyX5_ok 8 (by decide)) rfl rfl (Nat.le_of_ble_eq_true rfl) rfl dX5_seed_7 ?_
  refine k_iload_n C dX5_seed_10 0 rfl rfl ?_
  obtain rfl := Option.some.inj h
  exact kret_i C rfl dX5_seed_11
theorem c_R_seed (l : Launch) (D : va_G) (cI : ClassId) (cL : ClassId) (cZ : ClassId) (sz : Nat) (a_this : Nat) (a_gravel : Nat) (a_kind : Nat) (a_own : Nat) (a_likely : Nat) (a_tape : Nat) (a_holding : Nat) (a_rowLength : Nat) (a_rowOf : Nat) (a_refusals : Nat) (a_old : Nat) (a_ahead : Nat) (a_cost : Nat) (a_may : Nat) (a_rest : Nat) (a_way : Nat) (v1 : Int32) (c_n : Int32) (c_rain : Int32) (c_ear : Int32) (c_many : Int32) (c_seed : Int32) (c_taped : Int32) (c_from : Int32) (c_to : Int32) (c_token : Int32) (c_value : Int32) (c_imaged : Int32) (x : (Int32 × Int32)) (h : f_R_seed v1 c_seed = some x) :
    Met l yX5_seed (Cond.code yX5_seed cX5_seed 3 (some .int) :: WS) rm_R_seed (kP D (tyG cI cL cZ) kTrue [.ref a_this, .int v1] sz (cells_R_seed cI cL cZ a_this a_gravel a_kind a_own a_likely a_tape a_holding a_rowLength a_rowOf a_refusals a_old a_ahead a_cost a_may a_rest a_way c_n c_rain c_ear c_many c_seed c_taped c_from c_to c_token c_value c_imaged)) (kQi D (va_A (cells_R_seed cI cL cZ a_this a_gravel a_kind a_own a_likely a_tape a_holding a_rowLength a_rowOf a_refusals a_old a_ahead a_cost a_may a_rest a_way c_n c_rain c_ear c_many c_seed c_taped c_from c_to c_token c_value c_imaged) sz) (cells_R_seed cI cL cZ a_this a_gravel a_kind a_own a_likely a_tape a_holding a_rowLength a_rowOf a_refusals a_old a_ahead a_cost a_may a_rest a_way c_n c_rain c_ear c_many x.2 c_taped c_from c_to c_token c_value c_imaged) x.1) 0 0 (va_A (cells_R_seed cI cL cZ a_this a_gravel a_kind a_own a_likely a_tape a_holding a_rowLength a_rowOf a_refusals a_old a_ahead a_cost a_may a_rest a_way c_n c_rain c_ear c_many c_seed c_taped c_from c_to c_token c_value c_imaged) sz) :=
  kmet (by decide) (Nat.le_of_ble_eq_true rfl) rfl (fun p e s m below meth c C hE => s_R_seed C h)
abbrev cells_R_image (cI : ClassId) (cL : ClassId) (cZ : ClassId) (a_this : Nat) (a_gravel : Nat) (a_kind : Nat) (a_own : Nat) (a_likely : Nat) (a_tape : Nat) (a_holding : Nat) (a_rowLength : Nat) (a_rowOf : Nat) (a_refusals : Nat) (a_old : Nat) (a_ahead : Nat) (a_cost : Nat) (a_may : Nat) (a_rest : Nat) (a_way : Nat) (c_n : Int32) (c_rain : Int32) (c_ear : Int32) (c_many : Int32) (c_seed : Int32) (c_taped : Int32) (c_from : Int32) (c_to : Int32) (c_token : Int32) (c_value : Int32) (c_imaged : Int32) (c_gravel : (Nat → Int32)) (c_kind : (Nat → Int32)) (c_own : (Nat → Int32)) (c_likely : (Nat → Int32)) (c_old : (Nat → Int32)) : va_W := [(a_this, .inr (5, [.int c_n, .ref a_gravel, .int c_rain, .int c_ear, .int c_many, .ref a_kind, .ref a_own, .ref a_likely, .int c_seed, .int c_taped, .ref a_tape, .int c_from, .int c_to, .int c_token, .int c_value, .ref a_holding, .ref a_rowLength, .ref a_rowOf, .ref a_refusals, .int c_imaged, .ref a_old, .ref a_ahead, .ref a_cost, .ref a_may, .ref a_rest, .ref a_way])), (a_gravel, .inl (cI, 36, .inl c_gravel)), (a_kind, .inl (cI, 8, .inl c_kind)), (a_own, .inl (cI, 8, .inl c_own)), (a_likely, .inl (cI, 8, .inl c_likely)), (a_old, .inl (cI, 65, .inl c_old))]
abbrev rm_R_image : Room := { frames := 1, cells := 0, slots := 0, locals := 22 }
set_option maxRecDepth 100000 in
set_option maxHeartbeats 4000000 in
theorem s_R_image (C : kC p l e rm_R_image s m args below meth c D (tyG cI cL cZ) A 1 cX5_image yX5_image.cls (Cond.code yX5_image cX5_image 1 (some .int) :: WS) (some .int)) {a_this : Nat} {a_gravel : Nat} {a_kind : Nat} {a_own : Nat} {a_likely : Nat} {a_tape : Nat} {a_holding : Nat} {a_rowLength : Nat} {a_rowOf : Nat} {a_refusals : Nat} {a_old : Nat} {a_ahead : Nat} {a_cost : Nat} {a_may : Nat} {a_rest : Nat} {a_way : Nat} {c_n : Int32} {c_rain : Int32} {c_ear : Int32} {c_many : Int32} {c_seed : Int32} {c_taped : Int32} {c_from : Int32} {c_to : Int32} {c_token : Int32} {c_value : Int32} {c_imaged : Int32} {c_gravel : (Nat → Int32)} {c_kind : (Nat → Int32)} {c_own : (Nat → Int32)} {c_likely : (Nat → Int32)} {c_old : (Nat → Int32)} {x : (Int32 × Int32 × (Nat → Int32))} (h : f_R_image c_n c_rain c_ear c_many c_seed c_imaged c_gravel c_kind c_own c_likely c_old = some x) :
    kW p l e rm_R_image s m args below meth c D A 1 (cells_R_image cI cL cZ a_this a_gravel a_kind a_own a_likely a_tape a_holding a_rowLength a_rowOf a_refusals a_old a_ahead a_cost a_may a_rest a_way c_n c_rain c_ear c_many c_seed c_taped c_from c_to c_token c_value c_imaged c_gravel c_kind c_own c_likely c_old) [(0, .ref a_this)] (MQ below (kQi D A (cells_R_image cI cL cZ a_this a_gravel a_kind a_own a_likely a_tape a_holding a_rowLength a_rowOf a_refusals a_old a_ahead a_cost a_may a_rest a_way c_n c_rain c_ear c_many c_seed c_taped c_from c_to c_token c_value x.2.1 c_gravel c_kind c_own c_likely x.2.2) x.1) args s 0 0 A) 0 [] := by
  unfold f_R_image at h
  refine k_aload_n C dX5_image_0 0 rfl rfl ?_
  refine k_iconst C (v := (1 : Int32)) dX5_image_1 (by decide) ?_
  refine k_put C (C0 := RX5) (T := TX5) (N := 26) (ws' := (cells_R_image cI cL cZ a_this a_gravel a_kind a_own a_likely a_tape a_holding a_rowLength a_rowOf a_refusals a_old a_ahead a_cost a_may a_rest a_way c_n c_rain c_ear c_many c_seed c_taped c_from c_to c_token c_value (1 : Int32) c_gravel c_kind c_own c_likely c_old)) (fun w h => List.mem_cons_of_mem _ (us_R w h)) tyX5 tyX5_ok nmX5 0 rfl rfl 19 (by decide) (List.mem_cons_of_mem _ wq_786) rfl rfl (tyX5_ok 19 (by decide)) rfl rfl (Nat.le_of_ble_eq_true rfl) rfl dX5_image_2 ?_
  refine k_aload_n C dX5_image_5 0 rfl rfl ?_
  refine k_aload_n C dX5_image_6 0 rfl rfl ?_
  refine k_get C (C0 := RX5) (T := TX5) (N := 26) (fun w h => List.mem_cons_of_mem _ (us_R w h)) 0 rfl rfl 20 (by decide) (List.mem_cons_of_mem _ wq_787) rfl rfl dX5_image_7 ?_
  obtain ⟨x1, hx1, h⟩ := bindE h
  refine kcallU_v C (wc := (cells_R_keep cI cL cZ a_this a_gravel a_kind a_own a_likely a_tape a_holding a_rowLength a_rowOf a_refusals a_old a_ahead a_cost a_may a_rest a_way a_old c_n c_rain c_ear c_many c_seed c_taped c_from c_to c_token c_value (1 : Int32) c_gravel c_kind c_own c_likely c_old)) (w1 := (cells_R_keep cI cL cZ a_this a_gravel a_kind a_own a_likely a_tape a_holding a_rowLength a_rowOf a_refusals a_old a_ahead a_cost a_may a_rest a_way a_old c_n c_rain c_ear c_many c_seed c_taped c_from c_to c_token c_value (1 : Int32) c_gravel c_kind c_own c_likely x1)) (ws' := (cells_R_image cI cL cZ a_this a_gravel a_kind a_own a_likely a_tape a_holding a_rowLength a_rowOf a_refusals a_old a_ahead a_cost a_may a_rest a_way c_n c_rain c_ear c_many c_seed c_taped c_from c_to c_token c_value (1 : Int32) c_gravel c_kind c_own c_likely x1)) [0, 1, 2, 3, 4, 5] (fun H locs ls hP hD hS hF hz => krunV C (q0 := 0) (ci := 5) (c_R_keep l D cI cL cZ H.size a_this a_gravel a_kind a_own a_likely a_tape a_holding a_rowLength a_rowOf a_refusals a_old a_ahead a_cost a_may a_rest a_way a_old c_n c_rain c_ear c_many c_seed c_taped c_from c_to c_token c_value (1 : Int32) c_gravel c_kind c_own c_likely c_old x1 hx1) (cwV 1 C.2.2.2.2.1 (gV wq_634 wq_635 wq_636 wq_544 wq_633) rfl rfl rfl (by decide +kernel) ⟨(Nat.le_of_ble_eq_true rfl), (Nat.le_of_ble_eq_true rfl)⟩) rfl rfl kEnv_T rfl rfl (Nat.le_of_ble_eq_true rfl) dX5_image_10 hP hD hz) rfl (by decide) rfl rfl ?_
  refine k_iconst C (v := (1 : Int32)) dX5_image_13 (by decide) ?_
  obtain rfl := Option.some.inj h
  exact kret_i C rfl dX5_image_14
theorem c_R_image (l : Launch) (D : va_G) (cI : ClassId) (cL : ClassId) (cZ : ClassId) (sz : Nat) (a_this : Nat) (a_gravel : Nat) (a_kind : Nat) (a_own : Nat) (a_likely : Nat) (a_tape : Nat) (a_holding : Nat) (a_rowLength : Nat) (a_rowOf : Nat) (a_refusals : Nat) (a_old : Nat) (a_ahead : Nat) (a_cost : Nat) (a_may : Nat) (a_rest : Nat) (a_way : Nat) (c_n : Int32) (c_rain : Int32) (c_ear : Int32) (c_many : Int32) (c_seed : Int32) (c_taped : Int32) (c_from : Int32) (c_to : Int32) (c_token : Int32) (c_value : Int32) (c_imaged : Int32) (c_gravel : (Nat → Int32)) (c_kind : (Nat → Int32)) (c_own : (Nat → Int32)) (c_likely : (Nat → Int32)) (c_old : (Nat → Int32)) (x : (Int32 × Int32 × (Nat → Int32))) (h : f_R_image c_n c_rain c_ear c_many c_seed c_imaged c_gravel c_kind c_own c_likely c_old = some x) :
    Met l yX5_image (Cond.code yX5_image cX5_image 1 (some .int) :: WS) rm_R_image (kP D (tyG cI cL cZ) kTrue [.ref a_this] sz (cells_R_image cI cL cZ a_this a_gravel a_kind a_own a_likely a_tape a_holding a_rowLength a_rowOf a_refusals a_old a_ahead a_cost a_may a_rest a_way c_n c_rain c_ear c_many c_seed c_taped c_from c_to c_token c_value c_imaged c_gravel c_kind c_own c_likely c_old)) (kQi D (va_A (cells_R_image cI cL cZ a_this a_gravel a_kind a_own a_likely a_tape a_holding a_rowLength a_rowOf a_refusals a_old a_ahead a_cost a_may a_rest a_way c_n c_rain c_ear c_many c_seed c_taped c_from c_to c_token c_value c_imaged c_gravel c_kind c_own c_likely c_old) sz) (cells_R_image cI cL cZ a_this a_gravel a_kind a_own a_likely a_tape a_holding a_rowLength a_rowOf a_refusals a_old a_ahead a_cost a_may a_rest a_way c_n c_rain c_ear c_many c_seed c_taped c_from c_to c_token c_value x.2.1 c_gravel c_kind c_own c_likely x.2.2) x.1) 0 0 (va_A (cells_R_image cI cL cZ a_this a_gravel a_kind a_own a_likely a_tape a_holding a_rowLength a_rowOf a_refusals a_old a_ahead a_cost a_may a_rest a_way c_n c_rain c_ear c_many c_seed c_taped c_from c_to c_token c_value c_imaged c_gravel c_kind c_own c_likely c_old) sz) :=
  kmet (by decide) (Nat.le_of_ble_eq_true rfl) rfl (fun p e s m below meth c C hE => s_R_image C h)
abbrev cells_R_back (cI : ClassId) (cL : ClassId) (cZ : ClassId) (a_this : Nat) (a_gravel : Nat) (a_kind : Nat) (a_own : Nat) (a_likely : Nat) (a_tape : Nat) (a_holding : Nat) (a_rowLength : Nat) (a_rowOf : Nat) (a_refusals : Nat) (a_old : Nat) (a_ahead : Nat) (a_cost : Nat) (a_may : Nat) (a_rest : Nat) (a_way : Nat) (c_n : Int32) (c_rain : Int32) (c_ear : Int32) (c_many : Int32) (c_seed : Int32) (c_taped : Int32) (c_from : Int32) (c_to : Int32) (c_token : Int32) (c_value : Int32) (c_imaged : Int32) (c_gravel : (Nat → Int32)) (c_kind : (Nat → Int32)) (c_own : (Nat → Int32)) (c_likely : (Nat → Int32)) (c_holding : (Nat → Int32)) (c_refusals : (Nat → Int32)) (c_old : (Nat → Int32)) : va_W := [(a_this, .inr (5, [.int c_n, .ref a_gravel, .int c_rain, .int c_ear, .int c_many, .ref a_kind, .ref a_own, .ref a_likely, .int c_seed, .int c_taped, .ref a_tape, .int c_from, .int c_to, .int c_token, .int c_value, .ref a_holding, .ref a_rowLength, .ref a_rowOf, .ref a_refusals, .int c_imaged, .ref a_old, .ref a_ahead, .ref a_cost, .ref a_may, .ref a_rest, .ref a_way])), (a_gravel, .inl (cI, 36, .inl c_gravel)), (a_kind, .inl (cI, 8, .inl c_kind)), (a_own, .inl (cI, 8, .inl c_own)), (a_likely, .inl (cI, 8, .inl c_likely)), (a_holding, .inl (cI, 8, .inl c_holding)), (a_refusals, .inl (cI, 7, .inl c_refusals)), (a_old, .inl (cI, 65, .inl c_old))]
abbrev rm_R_back : Room := { frames := 1, cells := 0, slots := 0, locals := 22 }
set_option maxRecDepth 100000 in
set_option maxHeartbeats 4000000 in
theorem s_R_back_b24 (C : kC p l e rm_R_back s m args below meth c D (tyG cI cL cZ) A 2 cX5_back yX5_back.cls (Cond.code yX5_back cX5_back 2 (some .int) :: WS) (some .int)) {a_this : Nat} {a_gravel : Nat} {a_kind : Nat} {a_own : Nat} {a_likely : Nat} {a_tape : Nat} {a_holding : Nat} {a_rowLength : Nat} {a_rowOf : Nat} {a_refusals : Nat} {a_old : Nat} {a_ahead : Nat} {a_cost : Nat} {a_may : Nat} {a_rest : Nat} {a_way : Nat} {v1 : Int32} {c_n : Int32} {c_rain : Int32} {c_ear : Int32} {c_many : Int32} {c_seed : Int32} {c_taped : Int32} {c_from : Int32} {c_to : Int32} {c_token : Int32} {c_value : Int32} {c_imaged : Int32} {c_gravel : (Nat → Int32)} {c_kind : (Nat → Int32)} {c_own : (Nat → Int32)} {c_likely : (Nat → Int32)} {c_holding : (Nat → Int32)} {c_refusals : (Nat → Int32)} {c_old : (Nat → Int32)} {x : ((Int32 × (Nat → Int32)) ⊕ (Nat → Int32))} (h : f_R_back_b24 c_many v1 c_holding = some x)
    (kc : ∀ s', x = .inl s' → kW p l e rm_R_back s m args below meth c D A 2 (cells_R_back cI cL cZ a_this a_gravel a_kind a_own a_likely a_tape a_holding a_rowLength a_rowOf a_refusals a_old a_ahead a_cost a_may a_rest a_way c_n c_rain c_ear c_many c_seed c_taped c_from c_to c_token c_value c_imaged c_gravel c_kind c_own c_likely s'.2 c_refusals c_old) [(0, .ref a_this), (1, .int s'.1)] Q 24 [])
    (k0 : ∀ r, x = .inr r → kW p l e rm_R_back s m args below meth c D A 2 (cells_R_back cI cL cZ a_this a_gravel a_kind a_own a_likely a_tape a_holding a_rowLength a_rowOf a_refusals a_old a_ahead a_cost a_may a_rest a_way c_n c_rain c_ear c_many c_seed c_taped c_from c_to c_token c_value c_imaged c_gravel c_kind c_own c_likely r c_refusals c_old) [] Q 59 []) :
    kW p l e rm_R_back s m args below meth c D A 2 (cells_R_back cI cL cZ a_this a_gravel a_kind a_own a_likely a_tape a_holding a_rowLength a_rowOf a_refusals a_old a_ahead a_cost a_may a_rest a_way c_n c_rain c_ear c_many c_seed c_taped c_from c_to c_token c_value c_imaged c_gravel c_kind c_own c_likely c_holding c_refusals c_old) [(0, .ref a_this), (1, .int v1)] Q 24 [] := by
  unfold f_R_back_b24 at h
  refine k_iload_n C dX5_back_24 1 rfl rfl ?_
  refine k_bipush C (v := (8 : Int32)) dX5_back_25 (by decide) ?_
  refine k_icmp_ge C (tgt := 59) dX5_back_27 (by decide) (fun c_27 => ?_) (fun c_27 => ?_)
  · have h := ifT c_27 h
    refine k_lv (lv' := []) [] rfl ?_
    exact k0 _ (Option.some.inj h).symm
  · have h := ifF c_27 h
    refine k_aload_n C dX5_back_30 0 rfl rfl ?_
    refine k_get C (C0 := RX5) (T := TX5) (N := 26) (fun w h => List.mem_cons_of_mem _ (us_R w h)) 0 rfl rfl 15 (by decide) (List.mem_cons_of_mem _ wq_546) rfl rfl dX5_back_31 ?_
    refine k_iload_n C dX5_back_34 1 rfl rfl ?_
    obtain ⟨x2, hx2, h⟩ := bindE h
    refine k_iald C 5 0 rfl rfl hx2 dX5_back_35 ?_
    refine k_bipush C (v := (10 : Int32)) dX5_back_36 (by decide) ?_
    refine k_aload_n C dX5_back_38 0 rfl rfl ?_
    refine k_get C (C0 := RX5) (T := TX5) (N := 26) (fun w h => List.mem_cons_of_mem _ (us_R w h)) 0 rfl rfl 4 (by decide) (List.mem_cons_of_mem _ wq_540) rfl rfl dX5_back_39 ?_
    refine k_iadd C dX5_back_42 ?_
    refine k_icmp_lt C (tgt := 53) dX5_back_43 (by decide) (fun c_43 => ?_) (fun c_43 => ?_)
    · have h := ifT c_43 h
      refine k_iinc C (v := (v1 + (1 : Int32))) (lv' := [(1, .int (v1 + (1 : Int32))), (0, .ref a_this)]) dX5_back_53 1 rfl rfl (by decide) rfl ?_
      refine k_goto C (tgt := 24) dX5_back_56 (by decide) ?_
      refine k_lv (lv' := [(0, .ref a_this), (1, .int (v1 + (1 : Int32)))]) [1, 0] rfl ?_
      exact kc _ (Option.some.inj h).symm
    · have h := ifF c_43 h
      refine k_aload_n C dX5_back_46 0 rfl rfl ?_
      refine k_get C (C0 := RX5) (T := TX5) (N := 26) (fun w h => List.mem_cons_of_mem _ (us_R w h)) 0 rfl rfl 15 (by decide) (List.mem_cons_of_mem _ wq_546) rfl rfl dX5_back_47 ?_
      refine k_iload_n C dX5_back_50 1 rfl rfl ?_
      refine k_iconst C (v := (-1 : Int32)) dX5_back_51 (by decide) ?_
      obtain ⟨x3, hx3, h⟩ := bindE h
      refine k_iast C 5 0 (ws' := (cells_R_back cI cL cZ a_this a_gravel a_kind a_own a_likely a_tape a_holding a_rowLength a_rowOf a_refusals a_old a_ahead a_cost a_may a_rest a_way c_n c_rain c_ear c_many c_seed c_taped c_from c_to c_token c_value c_imaged c_gravel c_kind c_own c_likely x3 c_refusals c_old)) rfl rfl hx3 rfl dX5_back_52 ?_
      refine k_iinc C (v := (v1 + (1 : Int32))) (lv' := [(1, .int (v1 + (1 : Int32))), (0, .ref a_this)]) dX5_back_53 1 rfl rfl (by decide) rfl ?_
      refine k_goto C (tgt := 24) dX5_back_56 (by decide) ?_
      refine k_lv (lv' := [(0, .ref a_this), (1, .int (v1 + (1 : Int32)))]) [1, 0] rfl ?_
      exact kc _ (Option.some.inj h).symm
set_option maxRecDepth 100000 in
set_option maxHeartbeats 4000000 in
theorem s_R_back_l24 (C : kC p l e rm_R_back s m args below meth c D (tyG cI cL cZ) A 2 cX5_back yX5_back.cls (Cond.code yX5_back cX5_back 2 (some .int) :: WS) (some .int)) {a_this : Nat} {a_gravel : Nat} {a_kind : Nat} {a_own : Nat} {a_likely : Nat} {a_tape : Nat} {a_holding : Nat} {a_rowLength : Nat} {a_rowOf : Nat} {a_refusals : Nat} {a_old : Nat} {a_ahead : Nat} {a_cost : Nat} {a_may : Nat} {a_rest : Nat} {a_way : Nat} {v1 : Int32} {c_n : Int32} {c_rain : Int32} {c_ear : Int32} {c_many : Int32} {c_seed : Int32} {c_taped : Int32} {c_from : Int32} {c_to : Int32} {c_token : Int32} {c_value : Int32} {c_imaged : Int32} {c_gravel : (Nat → Int32)} {c_kind : (Nat → Int32)} {c_own : (Nat → Int32)} {c_likely : (Nat → Int32)} {c_holding : (Nat → Int32)} {c_refusals : (Nat → Int32)} {c_old : (Nat → Int32)} {x : (Nat → Int32)} (h : f_R_back_l24 c_many v1 c_holding = some x)
    (k0 : kW p l e rm_R_back s m args below meth c D A 2 (cells_R_back cI cL cZ a_this a_gravel a_kind a_own a_likely a_tape a_holding a_rowLength a_rowOf a_refusals a_old a_ahead a_cost a_may a_rest a_way c_n c_rain c_ear c_many c_seed c_taped c_from c_to c_token c_value c_imaged c_gravel c_kind c_own c_likely x c_refusals c_old) [] Q 59 []) :
    kW p l e rm_R_back s m args below meth c D A 2 (cells_R_back cI cL cZ a_this a_gravel a_kind a_own a_likely a_tape a_holding a_rowLength a_rowOf a_refusals a_old a_ahead a_cost a_may a_rest a_way c_n c_rain c_ear c_many c_seed c_taped c_from c_to c_token c_value c_imaged c_gravel c_kind c_own c_likely c_holding c_refusals c_old) [(0, .ref a_this), (1, .int v1)] Q 24 [] := by
  unfold f_R_back_l24 at h
  exact iter_W (T := fun sg => kW p l e rm_R_back s m args below meth c D A 2 (cells_R_back cI cL cZ a_this a_gravel a_kind a_own a_likely a_tape a_holding a_rowLength a_rowOf a_refusals a_old a_ahead a_cost a_may a_rest a_way c_n c_rain c_ear c_many c_seed c_taped c_from c_to c_token c_value c_imaged c_gravel c_kind c_own c_likely sg.2 c_refusals c_old) [(0, .ref a_this), (1, .int sg.1)] Q 24 []) (fun sg y hy hc _ hr => s_R_back_b24 C hy (fun s' e => hc s' e) (fun r e => by rw [hr r e]; exact k0)) FUEL _ h
set_option maxRecDepth 100000 in
set_option maxHeartbeats 4000000 in
theorem s_R_back (C : kC p l e rm_R_back s m args below meth c D (tyG cI cL cZ) A 2 cX5_back yX5_back.cls (Cond.code yX5_back cX5_back 2 (some .int) :: WS) (some .int)) {a_this : Nat} {a_gravel : Nat} {a_kind : Nat} {a_own : Nat} {a_likely : Nat} {a_tape : Nat} {a_holding : Nat} {a_rowLength : Nat} {a_rowOf : Nat} {a_refusals : Nat} {a_old : Nat} {a_ahead : Nat} {a_cost : Nat} {a_may : Nat} {a_rest : Nat} {a_way : Nat} {c_n : Int32} {c_rain : Int32} {c_ear : Int32} {c_many : Int32} {c_seed : Int32} {c_taped : Int32} {c_from : Int32} {c_to : Int32} {c_token : Int32} {c_value : Int32} {c_imaged : Int32} {c_gravel : (Nat → Int32)} {c_kind : (Nat → Int32)} {c_own : (Nat → Int32)} {c_likely : (Nat → Int32)} {c_holding : (Nat → Int32)} {c_refusals : (Nat → Int32)} {c_old : (Nat → Int32)} {x : (Int32 × Int32 × Int32 × Int32 × Int32 × Int32 × (Nat → Int32) × (Nat → Int32) × (Nat → Int32) × (Nat → Int32) × (Nat → Int32) × (Nat → Int32))} (h : f_R_back c_n c_rain c_ear c_many c_seed c_imaged c_gravel c_kind c_own c_likely c_holding c_refusals c_old = some x) :
    kW p l e rm_R_back s m args below meth c D A 2 (cells_R_back cI cL cZ a_this a_gravel a_kind a_own a_likely a_tape a_holding a_rowLength a_rowOf a_refusals a_old a_ahead a_cost a_may a_rest a_way c_n c_rain c_ear c_many c_seed c_taped c_from c_to c_token c_value c_imaged c_gravel c_kind c_own c_likely c_holding c_refusals c_old) [(0, .ref a_this)] (MQ below (kQi D A (cells_R_back cI cL cZ a_this a_gravel a_kind a_own a_likely a_tape a_holding a_rowLength a_rowOf a_refusals a_old a_ahead a_cost a_may a_rest a_way x.2.1 x.2.2.1 x.2.2.2.1 x.2.2.2.2.1 x.2.2.2.2.2.1 c_taped c_from c_to c_token c_value c_imaged x.2.2.2.2.2.2.1 x.2.2.2.2.2.2.2.1 x.2.2.2.2.2.2.2.2.1 x.2.2.2.2.2.2.2.2.2.1 x.2.2.2.2.2.2.2.2.2.2.1 x.2.2.2.2.2.2.2.2.2.2.2 c_old) x.1) args s 0 0 A) 0 [] := by
  unfold f_R_back at h
  refine k_aload_n C dX5_back_0 0 rfl rfl ?_
  refine k_get C (C0 := RX5) (T := TX5) (N := 26) (fun w h => List.mem_cons_of_mem _ (us_R w h)) 0 rfl rfl 19 (by decide) (List.mem_cons_of_mem _ wq_786) rfl rfl dX5_back_1 ?_
  refine k_if_ne C (tgt := 14) dX5_back_4 (by decide) (fun c_4 => ?_) (fun c_4 => ?_)
  · have h := ifF c_4 h
    refine k_aload_n C dX5_back_14 0 rfl rfl ?_
    refine k_aload_n C dX5_back_15 0 rfl rfl ?_
    refine k_get C (C0 := RX5) (T := TX5) (N := 26) (fun w h => List.mem_cons_of_mem _ (us_R w h)) 0 rfl rfl 20 (by decide) (List.mem_cons_of_mem _ wq_787) rfl rfl dX5_back_16 ?_
    obtain ⟨x1, hx1, h⟩ := bindE h
    refine kcallU_v C (wc := (cells_R_again cI cL cZ a_this a_gravel a_kind a_own a_likely a_tape a_holding a_rowLength a_rowOf a_refusals a_old a_ahead a_cost a_may a_rest a_way a_old c_n c_rain c_ear c_many c_seed c_taped c_from c_to c_token c_value c_imaged c_gravel c_kind c_own c_likely c_old)) (w1 := (cells_R_again cI cL cZ a_this a_gravel a_kind a_own a_likely a_tape a_holding a_rowLength a_rowOf a_refusals a_old a_ahead a_cost a_may a_rest a_way a_old x1.1 x1.2.1 x1.2.2.1 x1.2.2.2.1 x1.2.2.2.2.1 c_taped c_from c_to c_token c_value c_imaged x1.2.2.2.2.2.1 x1.2.2.2.2.2.2.1 x1.2.2.2.2.2.2.2.1 x1.2.2.2.2.2.2.2.2 c_old)) (ws' := (cells_R_back cI cL cZ a_this a_gravel a_kind a_own a_likely a_tape a_holding a_rowLength a_rowOf a_refusals a_old a_ahead a_cost a_may a_rest a_way x1.1 x1.2.1 x1.2.2.1 x1.2.2.2.1 x1.2.2.2.2.1 c_taped c_from c_to c_token c_value c_imaged x1.2.2.2.2.2.1 x1.2.2.2.2.2.2.1 x1.2.2.2.2.2.2.2.1 x1.2.2.2.2.2.2.2.2 c_holding c_refusals c_old)) [0, 1, 2, 3, 4, 7] (fun H locs ls hP hD hS hF hz => krunV C (q0 := 0) (ci := 5) (c_R_again l D cI cL cZ H.size a_this a_gravel a_kind a_own a_likely a_tape a_holding a_rowLength a_rowOf a_refusals a_old a_ahead a_cost a_may a_rest a_way a_old c_n c_rain c_ear c_many c_seed c_taped c_from c_to c_token c_value c_imaged c_gravel c_kind c_own c_likely c_old x1 hx1) (cwV 1 C.2.2.2.2.1 (gV wq_642 wq_643 wq_644 wq_544 wq_641) rfl rfl rfl (by decide +kernel) ⟨(Nat.le_of_ble_eq_true rfl), (Nat.le_of_ble_eq_true rfl)⟩) rfl rfl kEnv_T rfl rfl (Nat.le_of_ble_eq_true rfl) dX5_back_19 hP hD hz) rfl (by decide) rfl rfl ?_
    refine k_iconst C (v := (0 : Int32)) dX5_back_22 (by decide) ?_
    refine k_istore_n C (lv' := [(1, .int (0 : Int32)), (0, .ref a_this)]) dX5_back_23 rfl (by decide) rfl ?_
    obtain ⟨x4, hx4, h⟩ := bindE h
    refine k_lv (lv' := [(0, .ref a_this), (1, .int (0 : Int32))]) [1, 0] rfl ?_
    refine s_R_back_l24 C hx4 ?_
    refine k_iconst C (v := (1 : Int32)) dX5_back_59 (by decide) ?_
    obtain rfl := Option.some.inj h
    exact kret_i C rfl dX5_back_60
  · have h := ifT c_4 h
    refine k_aload_n C dX5_back_7 0 rfl rfl ?_
    refine k_bipush C (v := (-5 : Int32)) dX5_back_8 (by decide) ?_
    obtain ⟨x5, hx5, h⟩ := bindE h
    refine kcallU_i C (wc := (cells_R_no cI cL cZ a_this a_gravel a_kind a_own a_likely a_tape a_holding a_rowLength a_rowOf a_refusals a_old a_ahead a_cost a_may a_rest a_way c_n c_rain c_ear c_many c_seed c_taped c_from c_to c_token c_value c_imaged c_refusals)) (w1 := (cells_R_no cI cL cZ a_this a_gravel a_kind a_own a_likely a_tape a_holding a_rowLength a_rowOf a_refusals a_old a_ahead a_cost a_may a_rest a_way c_n c_rain c_ear c_many c_seed c_taped c_from c_to c_token c_value c_imaged x5.2)) (ws' := (cells_R_back cI cL cZ a_this a_gravel a_kind a_own a_likely a_tape a_holding a_rowLength a_rowOf a_refusals a_old a_ahead a_cost a_may a_rest a_way c_n c_rain c_ear c_many c_seed c_taped c_from c_to c_token c_value c_imaged c_gravel c_kind c_own c_likely c_holding x5.2 c_old)) (r := x5.1) [0, 6] (fun H locs ls hP hD hS hF hz => krunV C (q0 := 0) (ci := 5) (c_R_no l D cI cL cZ H.size a_this a_gravel a_kind a_own a_likely a_tape a_holding a_rowLength a_rowOf a_refusals a_old a_ahead a_cost a_may a_rest a_way (-5 : Int32) c_n c_rain c_ear c_many c_seed c_taped c_from c_to c_token c_value c_imaged c_refusals x5 hx5) (cwV 1 C.2.2.2.2.1 (gV wq_551 wq_552 wq_553 wq_544 wq_550) rfl rfl rfl (by decide +kernel) ⟨(Nat.le_of_ble_eq_true rfl), (Nat.le_of_ble_eq_true rfl)⟩) rfl rfl kEnv_T rfl rfl (Nat.le_of_ble_eq_true rfl) dX5_back_10 hP hD hz) rfl (by decide) rfl rfl ?_
    obtain rfl := Option.some.inj h
    exact kret_i C rfl dX5_back_13
theorem c_R_back (l : Launch) (D : va_G) (cI : ClassId) (cL : ClassId) (cZ : ClassId) (sz : Nat) (a_this : Nat) (a_gravel : Nat) (a_kind : Nat) (a_own : Nat) (a_likely : Nat) (a_tape : Nat) (a_holding : Nat) (a_rowLength : Nat) (a_rowOf : Nat) (a_refusals : Nat) (a_old : Nat) (a_ahead : Nat) (a_cost : Nat) (a_may : Nat) (a_rest : Nat) (a_way : Nat) (c_n : Int32) (c_rain : Int32) (c_ear : Int32) (c_many : Int32) (c_seed : Int32) (c_taped : Int32) (c_from : Int32) (c_to : Int32) (c_token : Int32) (c_value : Int32) (c_imaged : Int32) (c_gravel : (Nat → Int32)) (c_kind : (Nat → Int32)) (c_own : (Nat → Int32)) (c_likely : (Nat → Int32)) (c_holding : (Nat → Int32)) (c_refusals : (Nat → Int32)) (c_old : (Nat → Int32)) (x : (Int32 × Int32 × Int32 × Int32 × Int32 × Int32 × (Nat → Int32) × (Nat → Int32) × (Nat → Int32) × (Nat → Int32) × (Nat → Int32) × (Nat → Int32))) (h : f_R_back c_n c_rain c_ear c_many c_seed c_imaged c_gravel c_kind c_own c_likely c_holding c_refusals c_old = some x) :
    Met l yX5_back (Cond.code yX5_back cX5_back 2 (some .int) :: WS) rm_R_back (kP D (tyG cI cL cZ) kTrue [.ref a_this] sz (cells_R_back cI cL cZ a_this a_gravel a_kind a_own a_likely a_tape a_holding a_rowLength a_rowOf a_refusals a_old a_ahead a_cost a_may a_rest a_way c_n c_rain c_ear c_many c_seed c_taped c_from c_to c_token c_value c_imaged c_gravel c_kind c_own c_likely c_holding c_refusals c_old)) (kQi D (va_A (cells_R_back cI cL cZ a_this a_gravel a_kind a_own a_likely a_tape a_holding a_rowLength a_rowOf a_refusals a_old a_ahead a_cost a_may a_rest a_way c_n c_rain c_ear c_many c_seed c_taped c_from c_to c_token c_value c_imaged c_gravel c_kind c_own c_likely c_holding c_refusals c_old) sz) (cells_R_back cI cL cZ a_this a_gravel a_kind a_own a_likely a_tape a_holding a_rowLength a_rowOf a_refusals a_old a_ahead a_cost a_may a_rest a_way x.2.1 x.2.2.1 x.2.2.2.1 x.2.2.2.2.1 x.2.2.2.2.2.1 c_taped c_from c_to c_token c_value c_imaged x.2.2.2.2.2.2.1 x.2.2.2.2.2.2.2.1 x.2.2.2.2.2.2.2.2.1 x.2.2.2.2.2.2.2.2.2.1 x.2.2.2.2.2.2.2.2.2.2.1 x.2.2.2.2.2.2.2.2.2.2.2 c_old) x.1) 0 0 (va_A (cells_R_back cI cL cZ a_this a_gravel a_kind a_own a_likely a_tape a_holding a_rowLength a_rowOf a_refusals a_old a_ahead a_cost a_may a_rest a_way c_n c_rain c_ear c_many c_seed c_taped c_from c_to c_token c_value c_imaged c_gravel c_kind c_own c_likely c_holding c_refusals c_old) sz) :=
  kmet (by decide) (Nat.le_of_ble_eq_true rfl) rfl (fun p e s m below meth c C hE => s_R_back C h)
abbrev cells_R_status (cI : ClassId) (cL : ClassId) (cZ : ClassId) (a_this : Nat) (a_gravel : Nat) (a_kind : Nat) (a_own : Nat) (a_likely : Nat) (a_tape : Nat) (a_holding : Nat) (a_rowLength : Nat) (a_rowOf : Nat) (a_refusals : Nat) (a_old : Nat) (a_ahead : Nat) (a_cost : Nat) (a_may : Nat) (a_rest : Nat) (a_way : Nat) (c_n : Int32) (c_rain : Int32) (c_ear : Int32) (c_many : Int32) (c_seed : Int32) (c_taped : Int32) (c_from : Int32) (c_to : Int32) (c_token : Int32) (c_value : Int32) (c_imaged : Int32) (c_gravel : (Nat → Int32)) (c_likely : (Nat → Int32)) (c_holding : (Nat → Int32)) (c_refusals : (Nat → Int32)) : va_W := [(a_this, .inr (5, [.int c_n, .ref a_gravel, .int c_rain, .int c_ear, .int c_many, .ref a_kind, .ref a_own, .ref a_likely, .int c_seed, .int c_taped, .ref a_tape, .int c_from, .int c_to, .int c_token, .int c_value, .ref a_holding, .ref a_rowLength, .ref a_rowOf, .ref a_refusals, .int c_imaged, .ref a_old, .ref a_ahead, .ref a_cost, .ref a_may, .ref a_rest, .ref a_way])), (a_gravel, .inl (cI, 36, .inl c_gravel)), (a_likely, .inl (cI, 8, .inl c_likely)), (a_holding, .inl (cI, 8, .inl c_holding)), (a_refusals, .inl (cI, 7, .inl c_refusals))]
abbrev rm_R_status : Room := { frames := 1, cells := 0, slots := 0, locals := 22 }
set_option maxRecDepth 100000 in
set_option maxHeartbeats 4000000 in
theorem s_R_status_b94 (C : kC p l e rm_R_status s m args below meth c D (tyG cI cL cZ) A 4 cX5_status yX5_status.cls (Cond.code yX5_status cX5_status 4 (some .int) :: WS) (some .int)) {a_this : Nat} {a_gravel : Nat} {a_kind : Nat} {a_own : Nat} {a_likely : Nat} {a_tape : Nat} {a_holding : Nat} {a_rowLength : Nat} {a_rowOf : Nat} {a_refusals : Nat} {a_old : Nat} {a_ahead : Nat} {a_cost : Nat} {a_may : Nat} {a_rest : Nat} {a_way : Nat} {v2 : Int32} {v3 : Int32} {c_n : Int32} {c_rain : Int32} {c_ear : Int32} {c_many : Int32} {c_seed : Int32} {c_taped : Int32} {c_from : Int32} {c_to : Int32} {c_token : Int32} {c_value : Int32} {c_imaged : Int32} {c_gravel : (Nat → Int32)} {c_likely : (Nat → Int32)} {c_holding : (Nat → Int32)} {c_refusals : (Nat → Int32)} {x : ((Int32 × Int32) ⊕ Int32)} (h : f_R_status_b94 c_holding v2 v3 = some x)
    (kc : ∀ s', x = .inl s' → kW p l e rm_R_status s m args below meth c D A 4 (cells_R_status cI cL cZ a_this a_gravel a_kind a_own a_likely a_tape a_holding a_rowLength a_rowOf a_refusals a_old a_ahead a_cost a_may a_rest a_way c_n c_rain c_ear c_many c_seed c_taped c_from c_to c_token c_value c_imaged c_gravel c_likely c_holding c_refusals) [(0, .ref a_this), (2, .int s'.1), (3, .int s'.2)] Q 94 [])
    (k0 : ∀ r, x = .inr r → kW p l e rm_R_status s m args below meth c D A 4 (cells_R_status cI cL cZ a_this a_gravel a_kind a_own a_likely a_tape a_holding a_rowLength a_rowOf a_refusals a_old a_ahead a_cost a_may a_rest a_way c_n c_rain c_ear c_many c_seed c_taped c_from c_to c_token c_value c_imaged c_gravel c_likely c_holding c_refusals) [(2, .int r)] Q 119 []) :
    kW p l e rm_R_status s m args below meth c D A 4 (cells_R_status cI cL cZ a_this a_gravel a_kind a_own a_likely a_tape a_holding a_rowLength a_rowOf a_refusals a_old a_ahead a_cost a_may a_rest a_way c_n c_rain c_ear c_many c_seed c_taped c_from c_to c_token c_value c_imaged c_gravel c_likely c_holding c_refusals) [(0, .ref a_this), (2, .int v2), (3, .int v3)] Q 94 [] := by
  unfold f_R_status_b94 at h
  refine k_iload_n C dX5_status_94 2 rfl rfl ?_
  refine k_bipush C (v := (8 : Int32)) dX5_status_95 (by decide) ?_
  refine k_icmp_ge C (tgt := 119) dX5_status_97 (by decide) (fun c_97 => ?_) (fun c_97 => ?_)
  · have h := ifT c_97 h
    refine k_lv (lv' := [(2, .int v2)]) [1] rfl ?_
    exact k0 _ (Option.some.inj h).symm
  · have h := ifF c_97 h
    refine k_aload_n C dX5_status_100 0 rfl rfl ?_
    refine k_get C (C0 := RX5) (T := TX5) (N := 26) (fun w h => List.mem_cons_of_mem _ (us_R w h)) 0 rfl rfl 15 (by decide) (List.mem_cons_of_mem _ wq_546) rfl rfl dX5_status_101 ?_
    refine k_iload_n C dX5_status_104 2 rfl rfl ?_
    obtain ⟨x3, hx3, h⟩ := bindE h
    refine k_iald C 3 0 rfl rfl hx3 dX5_status_105 ?_
    refine k_iconst C (v := (-1 : Int32)) dX5_status_106 (by decide) ?_
    refine k_icmp_eq C (tgt := 113) dX5_status_107 (by decide) (fun c_107 => ?_) (fun c_107 => ?_)
    · have h := ifT c_107 h
      refine k_iinc C (v := (v3 + (1 : Int32))) (lv' := [(3, .int (v3 + (1 : Int32))), (0, .ref a_this), (2, .int v2)]) dX5_status_113 2 rfl rfl (by decide) rfl ?_
      refine k_goto C (tgt := 94) dX5_status_116 (by decide) ?_
      refine k_lv (lv' := [(0, .ref a_this), (2, .int v2), (3, .int (v3 + (1 : Int32)))]) [1, 2, 0] rfl ?_
      exact kc _ (Option.some.inj h).symm
    · have h := ifF c_107 h
      refine k_iinc C (v := (v2 + (1 : Int32))) (lv' := [(2, .int (v2 + (1 : Int32))), (0, .ref a_this), (3, .int v3)]) dX5_status_110 1 rfl rfl (by decide) rfl ?_
      refine k_iinc C (v := (v3 + (1 : Int32))) (lv' := [(3, .int (v3 + (1 : Int32))), (2, .int (v2 + (1 : Int32))), (0, .ref a_this)]) dX5_status_113 2 rfl rfl (by decide) rfl ?_
      refine k_goto C (tgt := 94) dX5_status_116 (by decide) ?_
      refine k_lv (lv' := [(0, .ref a_this), (2, .int (v2 + (1 : Int32))), (3, .int (v3 + (1 : Int32)))]) [2, 1, 0] rfl ?_
      exact kc _ (Option.some.inj h).symm
set_option maxRecDepth 100000 in
set_option maxHeartbeats 4000000 in
theorem s_R_status_l94 (C : kC p l e rm_R_status s m args below meth c D (tyG cI cL cZ) A 4 cX5_status yX5_status.cls (Cond.code yX5_status cX5_status 4 (some .int) :: WS) (some .int)) {a_this : Nat} {a_gravel : Nat} {a_kind : Nat} {a_own : Nat} {a_likely : Nat} {a_tape : Nat} {a_holding : Nat} {a_rowLength : Nat} {a_rowOf : Nat} {a_refusals : Nat} {a_old : Nat} {a_ahead : Nat} {a_cost : Nat} {a_may : Nat} {a_rest : Nat} {a_way : Nat} {v2 : Int32} {v3 : Int32} {c_n : Int32} {c_rain : Int32} {c_ear : Int32} {c_many : Int32} {c_seed : Int32} {c_taped : Int32} {c_from : Int32} {c_to : Int32} {c_token : Int32} {c_value : Int32} {c_imaged : Int32} {c_gravel : (Nat → Int32)} {c_likely : (Nat → Int32)} {c_holding : (Nat → Int32)} {c_refusals : (Nat → Int32)} {x : Int32} (h : f_R_status_l94 c_holding v2 v3 = some x)
    (k0 : kW p l e rm_R_status s m args below meth c D A 4 (cells_R_status cI cL cZ a_this a_gravel a_kind a_own a_likely a_tape a_holding a_rowLength a_rowOf a_refusals a_old a_ahead a_cost a_may a_rest a_way c_n c_rain c_ear c_many c_seed c_taped c_from c_to c_token c_value c_imaged c_gravel c_likely c_holding c_refusals) [(2, .int x)] Q 119 []) :
    kW p l e rm_R_status s m args below meth c D A 4 (cells_R_status cI cL cZ a_this a_gravel a_kind a_own a_likely a_tape a_holding a_rowLength a_rowOf a_refusals a_old a_ahead a_cost a_may a_rest a_way c_n c_rain c_ear c_many c_seed c_taped c_from c_to c_token c_value c_imaged c_gravel c_likely c_holding c_refusals) [(0, .ref a_this), (2, .int v2), (3, .int v3)] Q 94 [] := by
  unfold f_R_status_l94 at h
  exact iter_W (T := fun sg => kW p l e rm_R_status s m args below meth c D A 4 (cells_R_status cI cL cZ a_this a_gravel a_kind a_own a_likely a_tape a_holding a_rowLength a_rowOf a_refusals a_old a_ahead a_cost a_may a_rest a_way c_n c_rain c_ear c_many c_seed c_taped c_from c_to c_token c_value c_imaged c_gravel c_likely c_holding c_refusals) [(0, .ref a_this), (2, .int sg.1), (3, .int sg.2)] Q 94 []) (fun sg y hy hc _ hr => s_R_status_b94 C hy (fun s' e => hc s' e) (fun r e => by rw [hr r e]; exact k0)) FUEL _ h
set_option maxRecDepth 100000 in
set_option maxHeartbeats 4000000 in
theorem s_R_status (C : kC p l e rm_R_status s m args below meth c D (tyG cI cL cZ) A 4 cX5_status yX5_status.cls (Cond.code yX5_status cX5_status 4 (some .int) :: WS) (some .int)) {a_this : Nat} {a_gravel : Nat} {a_kind : Nat} {a_own : Nat} {a_likely : Nat} {a_tape : Nat} {a_holding : Nat} {a_rowLength : Nat} {a_rowOf : Nat} {a_refusals : Nat} {a_old : Nat} {a_ahead : Nat} {a_cost : Nat} {a_may : Nat} {a_rest : Nat} {a_way : Nat} {v1 : Int32} {c_n : Int32} {c_rain : Int32} {c_ear : Int32} {c_many : Int32} {c_seed : Int32} {c_taped : Int32} {c_from : Int32} {c_to : Int32} {c_token : Int32} {c_value : Int32} {c_imaged : Int32} {c_gravel : (Nat → Int32)} {c_likely : (Nat → Int32)} {c_holding : (Nat → Int32)} {c_refusals : (Nat → Int32)} {x : Int32} (h : f_R_status v1 c_n c_rain c_ear c_many c_seed c_taped c_gravel c_likely c_holding c_refusals = some x) :
    kW p l e rm_R_status s m args below meth c D A 4 (cells_R_status cI cL cZ a_this a_gravel a_kind a_own a_likely a_tape a_holding a_rowLength a_rowOf a_refusals a_old a_ahead a_cost a_may a_rest a_way c_n c_rain c_ear c_many c_seed c_taped c_from c_to c_token c_value c_imaged c_gravel c_likely c_holding c_refusals) [(0, .ref a_this), (1, .int v1)] (MQ below (kQi D A (cells_R_status cI cL cZ a_this a_gravel a_kind a_own a_likely a_tape a_holding a_rowLength a_rowOf a_refusals a_old a_ahead a_cost a_may a_rest a_way c_n c_rain c_ear c_many c_seed c_taped c_from c_to c_token c_value c_imaged c_gravel c_likely c_holding c_refusals) x) args s 0 0 A) 0 [] := by
  unfold f_R_status at h
  refine k_iconst C (v := (0 : Int32)) dX5_status_0 (by decide) ?_
  refine k_istore_n C (lv' := [(2, .int (0 : Int32)), (0, .ref a_this), (1, .int v1)]) dX5_status_1 rfl (by decide) rfl ?_
  refine k_iload_n C dX5_status_2 2 rfl rfl ?_
  by_cases e_3_0 : v1 = (0 : Int32)
  · have h := ifT e_3_0 h
    have z : Int32.toInt v1 = 0 := by rw [e_3_0]; decide
    refine k_tableIn C (off := 49) (tgt := 52) dX5_status_3 (by rw [z]; decide) (by rw [z]; decide) (by rw [z]; rfl) (by decide) ?_
    refine k_aload_n C dX5_status_52 1 rfl rfl ?_
    refine k_get C (C0 := RX5) (T := TX5) (N := 26) (fun w h => List.mem_cons_of_mem _ (us_R w h)) 0 rfl rfl 4 (by decide) (List.mem_cons_of_mem _ wq_540) rfl rfl dX5_status_53 ?_
    obtain rfl := Option.some.inj h
    exact kret_i C rfl dX5_status_56
  have h := ifF e_3_0 h
  by_cases e_3_1 : v1 = (1 : Int32)
  · have h := ifT e_3_1 h
    have z : Int32.toInt v1 = 1 := by rw [e_3_1]; decide
    refine k_tableIn C (off := 54) (tgt := 57) dX5_status_3 (by rw [z]; decide) (by rw [z]; decide) (by rw [z]; rfl) (by decide) ?_
    refine k_aload_n C dX5_status_57 1 rfl rfl ?_
    refine k_get C (C0 := RX5) (T := TX5) (N := 26) (fun w h => List.mem_cons_of_mem _ (us_R w h)) 0 rfl rfl 0 (by decide) (List.mem_cons_of_mem _ wq_545) rfl rfl dX5_status_58 ?_
    obtain rfl := Option.some.inj h
    exact kret_i C rfl dX5_status_61
  have h := ifF e_3_1 h
  by_cases e_3_2 : v1 = (2 : Int32)
  · have h := ifT e_3_2 h
    have z : Int32.toInt v1 = 2 := by rw [e_3_2]; decide
    refine k_tableIn C (off := 59) (tgt := 62) dX5_status_3 (by rw [z]; decide) (by rw [z]; decide) (by rw [z]; rfl) (by decide) ?_
    refine k_aload_n C dX5_status_62 1 rfl rfl ?_
    refine k_get C (C0 := RX5) (T := TX5) (N := 26) (fun w h => List.mem_cons_of_mem _ (us_R w h)) 0 rfl rfl 2 (by decide) (List.mem_cons_of_mem _ wq_572) rfl rfl dX5_status_63 ?_
    obtain rfl := Option.some.inj h
    exact kret_i C rfl dX5_status_66
  have h := ifF e_3_2 h
  by_cases e_3_3 : v1 = (3 : Int32)
  · have h := ifT e_3_3 h
    have z : Int32.toInt v1 = 3 := by rw [e_3_3]; decide
    refine k_tableIn C (off := 64) (tgt := 67) dX5_status_3 (by rw [z]; decide) (by rw [z]; decide) (by rw [z]; rfl) (by decide) ?_
    refine k_aload_n C dX5_status_67 1 rfl rfl ?_
    refine k_get C (C0 := RX5) (T := TX5) (N := 26) (fun w h => List.mem_cons_of_mem _ (us_R w h)) 0 rfl rfl 3 (by decide) (List.mem_cons_of_mem _ wq_596) rfl rfl dX5_status_68 ?_
    obtain rfl := Option.some.inj h
    exact kret_i C rfl dX5_status_71
  have h := ifF e_3_3 h
  by_cases e_3_4 : v1 = (4 : Int32)
  · have h := ifT e_3_4 h
    have z : Int32.toInt v1 = 4 := by rw [e_3_4]; decide
    refine k_tableIn C (off := 69) (tgt := 72) dX5_status_3 (by rw [z]; decide) (by rw [z]; decide) (by rw [z]; rfl) (by decide) ?_
    refine k_aload_n C dX5_status_72 1 rfl rfl ?_
    obtain ⟨x1, hx1, h⟩ := bindE h
    refine kcallR_i C (wc := (cells_R_allGravel cI cL cZ a_this a_gravel a_kind a_own a_likely a_tape a_holding a_rowLength a_rowOf a_refusals a_old a_ahead a_cost a_may a_rest a_way c_n c_rain c_ear c_many c_seed c_taped c_from c_to c_token c_value c_imaged c_gravel)) (r := x1) [0, 1] (fun H locs ls hP hD hS hF hz => krunV C (q0 := 0) (ci := 5) (c_R_allGravel l D cI cL cZ H.size a_this a_gravel a_kind a_own a_likely a_tape a_holding a_rowLength a_rowOf a_refusals a_old a_ahead a_cost a_may a_rest a_way c_n c_rain c_ear c_many c_seed c_taped c_from c_to c_token c_value c_imaged c_gravel x1 hx1) (cwV 0 C.2.2.2.2.1 (gV wq_778 wq_779 wq_780 wq_544 wq_777) rfl rfl rfl (by decide +kernel) ⟨(Nat.le_of_ble_eq_true rfl), (Nat.le_of_ble_eq_true rfl)⟩) rfl rfl kEnv_T rfl rfl (Nat.le_of_ble_eq_true rfl) dX5_status_73 hP hD hz) rfl (by decide) ?_
    obtain rfl := Option.some.inj h
    exact kret_i C rfl dX5_status_76
  have h := ifF e_3_4 h
  by_cases e_3_5 : v1 = (5 : Int32)
  · have h := ifT e_3_5 h
    have z : Int32.toInt v1 = 5 := by rw [e_3_5]; decide
    refine k_tableIn C (off := 74) (tgt := 77) dX5_status_3 (by rw [z]; decide) (by rw [z]; decide) (by rw [z]; rfl) (by decide) ?_
    refine k_aload_n C dX5_status_77 1 rfl rfl ?_
    obtain ⟨x2, hx2, h⟩ := bindE h
    refine kcallR_i C (wc := (cells_R_allLikely cI cL cZ a_this a_gravel a_kind a_own a_likely a_tape a_holding a_rowLength a_rowOf a_refusals a_old a_ahead a_cost a_may a_rest a_way c_n c_rain c_ear c_many c_seed c_taped c_from c_to c_token c_value c_imaged c_likely)) (r := x2) [0, 2] (fun H locs ls hP hD hS hF hz => krunV C (q0 := 0) (ci := 5) (c_R_allLikely l D cI cL cZ H.size a_this a_gravel a_kind a_own a_likely a_tape a_holding a_rowLength a_rowOf a_refusals a_old a_ahead a_cost a_may a_rest a_way c_n c_rain c_ear c_many c_seed c_taped c_from c_to c_token c_value c_imaged c_likely x2 hx2) (cwV 0 C.2.2.2.2.1 (gV wq_730 wq_731 wq_732 wq_544 wq_729) rfl rfl rfl (by decide +kernel) ⟨(Nat.le_of_ble_eq_true rfl), (Nat.le_of_ble_eq_true rfl)⟩) rfl rfl kEnv_T rfl rfl (Nat.le_of_ble_eq_true rfl) dX5_status_78 hP hD hz) rfl (by decide) ?_
    obtain rfl := Option.some.inj h
    exact kret_i C rfl dX5_status_81
  have h := ifF e_3_5 h
  by_cases e_3_6 : v1 = (6 : Int32)
  · have h := ifT e_3_6 h
    have z : Int32.toInt v1 = 6 := by rw [e_3_6]; decide
    refine k_tableIn C (off := 79) (tgt := 82) dX5_status_3 (by rw [z]; decide) (by rw [z]; decide) (by rw [z]; rfl) (by decide) ?_
    refine k_aload_n C dX5_status_82 1 rfl rfl ?_
    refine k_get C (C0 := RX5) (T := TX5) (N := 26) (fun w h => List.mem_cons_of_mem _ (us_R w h)) 0 rfl rfl 9 (by decide) (List.mem_cons_of_mem _ wq_601) rfl rfl dX5_status_83 ?_
    obtain rfl := Option.some.inj h
    exact kret_i C rfl dX5_status_86
  have h := ifF e_3_6 h
  by_cases e_3_7 : v1 = (7 : Int32)
  · have h := ifT e_3_7 h
    have z : Int32.toInt v1 = 7 := by rw [e_3_7]; decide
    refine k_tableIn C (off := 84) (tgt := 87) dX5_status_3 (by rw [z]; decide) (by rw [z]; decide) (by rw [z]; rfl) (by decide) ?_
    refine k_aload_n C dX5_status_87 1 rfl rfl ?_
    refine k_get C (C0 := RX5) (T := TX5) (N := 26) (fun w h => List.mem_cons_of_mem _ (us_R w h)) 0 rfl rfl 8 (by decide) (List.mem_cons_of_mem _ wq_631) rfl rfl dX5_status_88 ?_
    obtain rfl := Option.some.inj h
    exact kret_i C rfl dX5_status_91
  have h := ifF e_3_7 h
  by_cases e_3_8 : v1 = (8 : Int32)
  · have h := ifT e_3_8 h
    have z : Int32.toInt v1 = 8 := by rw [e_3_8]; decide
    refine k_tableIn C (off := 89) (tgt := 92) dX5_status_3 (by rw [z]; decide) (by rw [z]; decide) (by rw [z]; rfl) (by decide) ?_
    refine k_iconst C (v := (0 : Int32)) dX5_status_92 (by decide) ?_
    refine k_istore_n C (lv' := [(3, .int (0 : Int32)), (2, .int (0 : Int32)), (0, .ref a_this), (1, .int v1)]) dX5_status_93 rfl (by decide) rfl ?_
    obtain ⟨x4, hx4, h⟩ := bindE h
    refine k_lv (lv' := [(0, .ref a_this), (2, .int (0 : Int32)), (3, .int (0 : Int32))]) [2, 1, 0] rfl ?_
    refine s_R_status_l94 C hx4 ?_
    refine k_iload_n C dX5_status_119 0 rfl rfl ?_
    obtain rfl := Option.some.inj h
    exact kret_i C rfl dX5_status_120
  have h := ifF e_3_8 h
  have ze_3_0 := lv_neT e_3_0 (a := 0) (by decide)
  have ze_3_1 := lv_neT e_3_1 (a := 1) (by decide)
  have ze_3_2 := lv_neT e_3_2 (a := 2) (by decide)
  have ze_3_3 := lv_neT e_3_3 (a := 3) (by decide)
  have ze_3_4 := lv_neT e_3_4 (a := 4) (by decide)
  have ze_3_5 := lv_neT e_3_5 (a := 5) (by decide)
  have ze_3_6 := lv_neT e_3_6 (a := 6) (by decide)
  have ze_3_7 := lv_neT e_3_7 (a := 7) (by decide)
  have ze_3_8 := lv_neT e_3_8 (a := 8) (by decide)
  refine k_tableOut C (tgt := 121) dX5_status_3 (by omega) (by decide) ?_
  refine k_iload_n C dX5_status_121 2 rfl rfl ?_
  refine k_bipush C (v := (12 : Int32)) dX5_status_122 (by decide) ?_
  refine k_bipush C (v := (16 : Int32)) dX5_status_124 (by decide) ?_
  obtain ⟨x5, hx5, h⟩ := bindE h
  refine kcallE_i C (r := x5) (fun H locs ls hP hD hS hF hz => krunS C (c_R_within l D cI cL cZ H.size v1 (12 : Int32) (16 : Int32) x5 hx5) (va_cwS 3 C.2.2.2.2.1 (gS wq_542 wq_543 wq_544 wq_541) rfl rfl rfl (by decide +kernel) ⟨(Nat.le_of_ble_eq_true rfl), (Nat.le_of_ble_eq_true rfl)⟩) kEnv_T rfl rfl (Nat.le_of_ble_eq_true rfl) dX5_status_126 hP hD hz) ?_
  refine k_if_eq C (tgt := 144) dX5_status_129 (by decide) (fun c_129 => ?_) (fun c_129 => ?_)
  · have h := ifT c_129 h
    refine k_iconst C (v := (-1 : Int32)) dX5_status_144 (by decide) ?_
    obtain rfl := Option.some.inj h
    exact kret_i C rfl dX5_status_145
  · have h := ifF c_129 h
    refine k_aload_n C dX5_status_132 1 rfl rfl ?_
    refine k_get C (C0 := RX5) (T := TX5) (N := 26) (fun w h => List.mem_cons_of_mem _ (us_R w h)) 0 rfl rfl 18 (by decide) (List.mem_cons_of_mem _ wq_539) rfl rfl dX5_status_133 ?_
    refine k_iload_n C dX5_status_136 2 rfl rfl ?_
    refine k_bipush C (v := (10 : Int32)) dX5_status_137 (by decide) ?_
    refine k_isub C dX5_status_139 ?_
    obtain ⟨x6, hx6, h⟩ := bindE h
    refine k_iald C 4 0 rfl rfl hx6 dX5_status_140 ?_
    refine k_goto C (tgt := 145) dX5_status_141 (by decide) ?_
    obtain rfl := Option.some.inj h
    exact kret_i C rfl dX5_status_145

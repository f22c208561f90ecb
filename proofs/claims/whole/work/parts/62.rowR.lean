variable {p : Program} {l : Launch} {e : Env} {s : State} {m : MethodId} {args : Array Value} {below : List Frame} {meth : Method} {c : Code} {D : va_G} {A : Nat → Prop} {cI cL cZ : ClassId} {Q : State → Prop}
abbrev cells_R_back (cI : ClassId) (cL : ClassId) (cZ : ClassId) (a_this : Nat) (a_gravel : Nat) (a_kind : Nat) (a_own : Nat) (a_likely : Nat) (a_tape : Nat) (a_holding : Nat) (a_rowLength : Nat) (a_rowOf : Nat) (a_refusals : Nat) (a_old : Nat) (a_ahead : Nat) (a_cost : Nat) (a_may : Nat) (a_rest : Nat) (a_way : Nat) (c_n : Int32) (c_rain : Int32) (c_ear : Int32) (c_many : Int32) (c_seed : Int32) (c_taped : Int32) (c_from : Int32) (c_to : Int32) (c_token : Int32) (c_value : Int32) (c_imaged : Int32) (c_gravel : (Nat → Int32)) (c_kind : (Nat → Int32)) (c_own : (Nat → Int32)) (c_likely : (Nat → Int32)) (c_holding : (Nat → Int32)) (c_refusals : (Nat → Int32)) (c_old : (Nat → Int32)) : va_W := [(a_this, .inr (5, [.int c_n, .ref a_gravel, .int c_rain, .int c_ear, .int c_many, .ref a_kind, .ref a_own, .ref a_likely, .int c_seed, .int c_taped, .ref a_tape, .int c_from, .int c_to, .int c_token, .int c_value, .ref a_holding, .ref a_rowLength, .ref a_rowOf, .ref a_refusals, .int c_imaged, .ref a_old, .ref a_ahead, .ref a_cost, .ref a_may, .ref a_rest, .ref a_way])), (a_gravel, .inl (cI, 36, .inl c_gravel)), (a_kind, .inl (cI, 8, .inl c_kind)), (a_own, .inl (cI, 8, .inl c_own)), (a_likely, .inl (cI, 8, .inl c_likely)), (a_holding, .inl (cI, 8, .inl c_holding)), (a_refusals, .inl (cI, 7, .inl c_refusals)), (a_old, .inl (cI, 65, .inl c_old))]
abbrev rm_R_back : Room := { frames := 1, cells := 0, slots := 0, locals := 22 }
set_option maxRecDepth 100000 in
set_option maxHeartbeats 4000000 in
theorem s_R_back_b24 (C : kC p l e rm_R_back s m args below meth c D (tyG cI cL cZ) A 2 cX5_back yX5_back.cls (Cond.code yX5_back cX5_back 2 (some .int) :: WS) (some .int)) {a_this : Nat} {a_gravel : Nat} {a_kind : Nat} {a_own : Nat} {a_likely : Nat} {a_tape : Nat} {a_holding : Nat} {a_rowLength : Nat} {a_rowOf : Nat} {a_refusals : Nat} {a_old : Nat} {a_ahead : Nat} {a_cost : Nat} {a_may : Nat} {a_rest : Nat} {a_way : Nat} {v1 : Int32} {c_n : Int32} {c_rain : Int32} {c_ear : Int32} {c_many : Int32} {c_seed : Int32} {c_taped : Int32} {c_from : Int32} {c_to : Int32} {c_token : Int32} {c_value : Int32} {c_imaged : Int32} {c_gravel : (Nat → Int32)} {c_kind : (Nat → Int32)} {c_own : (Nat → Int32)} {c_likely : (Nat → Int32)} {c_holding : (Nat → Int32)} {c_refusals : (Nat → Int32)} {c_old : (Nat → Int32)} {x : ((Int32 × (Nat → Int32)) ⊕ (Nat → Int32))} (h : f_R_back_b24 c_many v1 c_holding = some x)
    (kc : ∀ s', x = .inl s' → kW p l e rm_R_back s m args below meth c D A 2 (cells_R_back cI cL cZ a_this a_gravel a_kind a_own a_likely a_tape a_holding a_rowLength a_rowOf a_refusals a_old a_ahead a_cost a_may a_rest a_way c_n c_rain c_ear c_many c_seed c_taped c_from c_to c_token c_value c_imaged c_gravel c_kind c_own c_likely s'.2 c_refusals c_old) [(0, .ref a_this), (1, .int s'.1)] Q 24 [])
    (k0 : ∀ r, x = .inr r → kW p l e rm_R_back s m args below meth c D A 2 (cells_R_back cI cL cZ a_this a_gravel a_kind a_own a_likely a_tape a_holding a_rowLength a_rowOf a_refusals a_old a_ahead a_cost a_may a_rest a_way c_n c_rain c_ear c_many c_seed c_taped c_from c_to c_token c_value c_imaged c_gravel c_kind c_own c_likely r c_refusals c_old) [] Q 59 []) :
    kW p l e rm_R_back s m args below meth c D A 2 (cells_R_back cI cL cZ a_this a_gravel a_kind a_own a_likely a_tape a_holding a_rowLength a_rowOf a_refusals a_old a_ahead a_cost a_may a_rest a_way c_n c_rain c_ear c_many c_seed c_taped c_from c_to c_token c_value c_imaged c_gravel c_kind c_own c_likely c_holding c_refusals c_old) [(0, .ref a_this), (1, .int v1)] Q 24 [] := by
  unfold f_R_back_b24 at h
  refine k_iload_n C dX5_back_24 1 rfl rfl ?_
  refine k_bipush C (v := (8 : Int32)) dX5_back_25 (by decide) ?_
  refine k_icmp_ge C (tgt := 59) dX5_back_27 (by decide) (fun c_27 => ?_) (fun c_27 => ?_)
  · have h := ifT c_27 h
    refine k_lv (lv' := []) [] rfl ?_
    exact k0 _ (Option.some.inj h).symm
  · have h := ifF c_27 h
    refine k_aload_n C dX5_back_30 0 rfl rfl ?_
    refine k_get C (C0 := RX5) (T := TX5) (N := 26) (fun w h => List.mem_cons_of_mem _ (us_R w h)) 0 rfl rfl 15 (by decide) (List.mem_cons_of_mem _ wq_553) rfl rfl dX5_back_31 ?_
    refine k_iload_n C dX5_back_34 1 rfl rfl ?_
    obtain ⟨x2, hx2, h⟩ := bindE h
    refine k_iald C 5 0 rfl rfl hx2 dX5_back_35 ?_
    refine k_bipush C (v := (10 : Int32)) dX5_back_36 (by decide) ?_
    refine k_aload_n C dX5_back_38 0 rfl rfl ?_
    refine k_get C (C0 := RX5) (T := TX5) (N := 26) (fun w h => List.mem_cons_of_mem _ (us_R w h)) 0 rfl rfl 4 (by decide) (List.mem_cons_of_mem _ wq_547) rfl rfl dX5_back_39 ?_
    refine k_iadd C dX5_back_42 ?_
    refine k_icmp_lt C (tgt := 53) dX5_back_43 (by decide) (fun c_43 => ?_) (fun c_43 => ?_)
    · have h := ifT c_43 h
      refine k_iinc C (v := (v1 + (1 : Int32))) (lv' := [(1, .int (v1 + (1 : Int32))), (0, .ref a_this)]) dX5_back_53 1 rfl rfl (by decide) rfl ?_
      refine k_goto C (tgt := 24) dX5_back_56 (by decide) ?_
      refine k_lv (lv' := [(0, .ref a_this), (1, .int (v1 + (1 : Int32)))]) [1, 0] rfl ?_
      exact kc _ (Option.some.inj h).symm
    · have h := ifF c_43 h
      refine k_aload_n C dX5_back_46 0 rfl rfl ?_
      refine k_get C (C0 := RX5) (T := TX5) (N := 26) (fun w h => List.mem_cons_of_mem _ (us_R w h)) 0 rfl rfl 15 (by decide) (List.mem_cons_of_mem _ wq_553) rfl rfl dX5_back_47 ?_
      refine k_iload_n C dX5_back_50 1 rfl rfl ?_
      refine k_iconst C (v := (-1 : Int32)) dX5_back_51 (by decide) ?_
      obtain ⟨x3, hx3, h⟩ := bindE h
      refine k_iast C 5 0 (ws' := (cells_R_back cI cL cZ a_this a_gravel a_kind a_own a_likely a_tape a_holding a_rowLength a_rowOf a_refusals a_old a_ahead a_cost a_may a_rest a_way c_n c_rain c_ear c_many c_seed c_taped c_from c_to c_token c_value c_imaged c_gravel c_kind c_own c_likely x3 c_refusals c_old)) rfl rfl hx3 rfl dX5_back_52 ?_
      refine k_iinc C (v := (v1 + (1 : Int32))) (lv' := [(1, .int (v1 + (1 : Int32))), (0, .ref a_this)]) dX5_back_53 1 rfl rfl (by decide) rfl ?_
      refine k_goto C (tgt := 24) dX5_back_56 (by decide) ?_
      refine k_lv (lv' := [(0, .ref a_this), (1, .int (v1 + (1 : Int32)))]) [1, 0] rfl ?_
      exact kc _ (Option.some.inj h).symm
set_option maxRecDepth 100000 in
set_option maxHeartbeats 4000000 in
theorem s_R_back_l24 (C : kC p l e rm_R_back s m args below meth c D (tyG cI cL cZ) A 2 cX5_back yX5_back.cls (Cond.code yX5_back cX5_back 2 (some .int) :: WS) (some .int)) {a_this : Nat} {a_gravel : Nat} {a_kind : Nat} {a_own : Nat} {a_likely : Nat} {a_tape : Nat} {a_holding : Nat} {a_rowLength : Nat} {a_rowOf : Nat} {a_refusals : Nat} {a_old : Nat} {a_ahead : Nat} {a_cost : Nat} {a_may : Nat} {a_rest : Nat} {a_way : Nat} {v1 : Int32} {c_n : Int32} {c_rain : Int32} {c_ear : Int32} {c_many : Int32} {c_seed : Int32} {c_taped : Int32} {c_from : Int32} {c_to : Int32} {c_token : Int32} {c_value : Int32} {c_imaged : Int32} {c_gravel : (Nat → Int32)} {c_kind : (Nat → Int32)} {c_own : (Nat → Int32)} {c_likely : (Nat → Int32)} {c_holding : (Nat → Int32)} {c_refusals : (Nat → Int32)} {c_old : (Nat → Int32)} {x : (Nat → Int32)} (h : f_R_back_l24 c_many v1 c_holding = some x)
    (k0 : kW p l e rm_R_back s m args below meth c D A 2 (cells_R_back cI cL cZ a_this a_gravel a_kind a_own a_likely a_tape a_holding a_rowLength a_rowOf a_refusals a_old a_ahead a_cost a_may a_rest a_way c_n c_rain c_ear c_many c_seed c_taped c_from c_to c_token c_value c_imaged c_gravel c_kind c_own c_likely x c_refusals c_old) [] Q 59 []) :
    kW p l e rm_R_back s m args below meth c D A 2 (cells_R_back cI cL cZ a_this a_gravel a_kind a_own a_likely a_tape a_holding a_rowLength a_rowOf a_refusals a_old a_ahead a_cost a_may a_rest a_way c_n c_rain c_ear c_many c_seed c_taped c_from c_to c_token c_value c_imaged c_gravel c_kind c_own c_likely c_holding c_refusals c_old) [(0, .ref a_this), (1, .int v1)] Q 24 [] := by
  unfold f_R_back_l24 at h
  exact iter_W (body := fun s => f_R_back_b24 c_many s.1 s.2) (r := x) (T := fun sg => kW p l e rm_R_back s m args below meth c D A 2 (cells_R_back cI cL cZ a_this a_gravel a_kind a_own a_likely a_tape a_holding a_rowLength a_rowOf a_refusals a_old a_ahead a_cost a_may a_rest a_way c_n c_rain c_ear c_many c_seed c_taped c_from c_to c_token c_value c_imaged c_gravel c_kind c_own c_likely sg.2 c_refusals c_old) [(0, .ref a_this), (1, .int sg.1)] Q 24 []) (fun sg y hy hc _ hr => s_R_back_b24 C (v1 := sg.1) (c_n := c_n) (c_rain := c_rain) (c_ear := c_ear) (c_many := c_many) (c_seed := c_seed) (c_taped := c_taped) (c_from := c_from) (c_to := c_to) (c_token := c_token) (c_value := c_value) (c_imaged := c_imaged) (c_gravel := c_gravel) (c_kind := c_kind) (c_own := c_own) (c_likely := c_likely) (c_holding := sg.2) (c_refusals := c_refusals) (c_old := c_old) (x := y) hy hc (fun r e => by rw [hr r e]; exact k0)) FUEL (v1, c_holding) h
set_option maxRecDepth 100000 in
set_option maxHeartbeats 4000000 in
theorem s_R_back (C : kC p l e rm_R_back s m args below meth c D (tyG cI cL cZ) A 2 cX5_back yX5_back.cls (Cond.code yX5_back cX5_back 2 (some .int) :: WS) (some .int)) {a_this : Nat} {a_gravel : Nat} {a_kind : Nat} {a_own : Nat} {a_likely : Nat} {a_tape : Nat} {a_holding : Nat} {a_rowLength : Nat} {a_rowOf : Nat} {a_refusals : Nat} {a_old : Nat} {a_ahead : Nat} {a_cost : Nat} {a_may : Nat} {a_rest : Nat} {a_way : Nat} {c_n : Int32} {c_rain : Int32} {c_ear : Int32} {c_many : Int32} {c_seed : Int32} {c_taped : Int32} {c_from : Int32} {c_to : Int32} {c_token : Int32} {c_value : Int32} {c_imaged : Int32} {c_gravel : (Nat → Int32)} {c_kind : (Nat → Int32)} {c_own : (Nat → Int32)} {c_likely : (Nat → Int32)} {c_holding : (Nat → Int32)} {c_refusals : (Nat → Int32)} {c_old : (Nat → Int32)} {x : (Int32 × Int32 × Int32 × Int32 × Int32 × Int32 × (Nat → Int32) × (Nat → Int32) × (Nat → Int32) × (Nat → Int32) × (Nat → Int32) × (Nat → Int32))} (h : f_R_back c_n c_rain c_ear c_many c_seed c_imaged c_gravel c_kind c_own c_likely c_holding c_refusals c_old = some x) :
    kW p l e rm_R_back s m args below meth c D A 2 (cells_R_back cI cL cZ a_this a_gravel a_kind a_own a_likely a_tape a_holding a_rowLength a_rowOf a_refusals a_old a_ahead a_cost a_may a_rest a_way c_n c_rain c_ear c_many c_seed c_taped c_from c_to c_token c_value c_imaged c_gravel c_kind c_own c_likely c_holding c_refusals c_old) [(0, .ref a_this)] (MQ below (kQi D A (cells_R_back cI cL cZ a_this a_gravel a_kind a_own a_likely a_tape a_holding a_rowLength a_rowOf a_refusals a_old a_ahead a_cost a_may a_rest a_way x.2.1 x.2.2.1 x.2.2.2.1 x.2.2.2.2.1 x.2.2.2.2.2.1 c_taped c_from c_to c_token c_value c_imaged x.2.2.2.2.2.2.1 x.2.2.2.2.2.2.2.1 x.2.2.2.2.2.2.2.2.1 x.2.2.2.2.2.2.2.2.2.1 x.2.2.2.2.2.2.2.2.2.2.1 x.2.2.2.2.2.2.2.2.2.2.2 c_old) x.1) args s 0 0 A) 0 [] := by
  unfold f_R_back at h
  refine k_aload_n C dX5_back_0 0 rfl rfl ?_
  refine k_get C (C0 := RX5) (T := TX5) (N := 26) (fun w h => List.mem_cons_of_mem _ (us_R w h)) 0 rfl rfl 19 (by decide) (List.mem_cons_of_mem _ wq_796) rfl rfl dX5_back_1 ?_
  refine k_if_ne C (tgt := 14) dX5_back_4 (by decide) (fun c_4 => ?_) (fun c_4 => ?_)
  · have h := ifF c_4 h
    refine k_aload_n C dX5_back_14 0 rfl rfl ?_
    refine k_aload_n C dX5_back_15 0 rfl rfl ?_
    refine k_get C (C0 := RX5) (T := TX5) (N := 26) (fun w h => List.mem_cons_of_mem _ (us_R w h)) 0 rfl rfl 20 (by decide) (List.mem_cons_of_mem _ wq_797) rfl rfl dX5_back_16 ?_
    obtain ⟨x1, hx1, h⟩ := bindE h
    refine kcallU_v C (wc := (cells_R_again cI cL cZ a_this a_gravel a_kind a_own a_likely a_tape a_holding a_rowLength a_rowOf a_refusals a_old a_ahead a_cost a_may a_rest a_way a_old c_n c_rain c_ear c_many c_seed c_taped c_from c_to c_token c_value c_imaged c_gravel c_kind c_own c_likely c_old)) (w1 := (cells_R_again cI cL cZ a_this a_gravel a_kind a_own a_likely a_tape a_holding a_rowLength a_rowOf a_refusals a_old a_ahead a_cost a_may a_rest a_way a_old x1.1 x1.2.1 x1.2.2.1 x1.2.2.2.1 x1.2.2.2.2.1 c_taped c_from c_to c_token c_value c_imaged x1.2.2.2.2.2.1 x1.2.2.2.2.2.2.1 x1.2.2.2.2.2.2.2.1 x1.2.2.2.2.2.2.2.2 c_old)) (ws' := (cells_R_back cI cL cZ a_this a_gravel a_kind a_own a_likely a_tape a_holding a_rowLength a_rowOf a_refusals a_old a_ahead a_cost a_may a_rest a_way x1.1 x1.2.1 x1.2.2.1 x1.2.2.2.1 x1.2.2.2.2.1 c_taped c_from c_to c_token c_value c_imaged x1.2.2.2.2.2.1 x1.2.2.2.2.2.2.1 x1.2.2.2.2.2.2.2.1 x1.2.2.2.2.2.2.2.2 c_holding c_refusals c_old)) [0, 1, 2, 3, 4, 7] (fun H locs ls hP hD hS hF hz => krunV C (q0 := 0) (ci := 5) (c_R_again l D cI cL cZ H.size a_this a_gravel a_kind a_own a_likely a_tape a_holding a_rowLength a_rowOf a_refusals a_old a_ahead a_cost a_may a_rest a_way a_old c_n c_rain c_ear c_many c_seed c_taped c_from c_to c_token c_value c_imaged c_gravel c_kind c_own c_likely c_old x1 hx1) (cwV 1 C.2.2.2.2.1 (gV wq_649 wq_650 wq_651 wq_551 wq_648) rfl rfl rfl (by decide +kernel) ⟨(Nat.le_of_ble_eq_true rfl), (Nat.le_of_ble_eq_true rfl)⟩) rfl rfl kEnv_T rfl rfl (Nat.le_of_ble_eq_true rfl) dX5_back_19 hP hD hz) rfl (by decide) rfl rfl ?_
    refine k_iconst C (v := (0 : Int32)) dX5_back_22 (by decide) ?_
    refine k_istore_n C (lv' := [(1, .int (0 : Int32)), (0, .ref a_this)]) dX5_back_23 rfl (by decide) rfl ?_
    obtain ⟨x4, hx4, h⟩ := bindE h
    refine k_lv (lv' := [(0, .ref a_this), (1, .int (0 : Int32))]) [1, 0] rfl ?_
    refine s_R_back_l24 C hx4 ?_
    refine k_iconst C (v := (1 : Int32)) dX5_back_59 (by decide) ?_
    obtain rfl := Option.some.inj h
    exact kret_i C rfl dX5_back_60
  · have h := ifT c_4 h
    refine k_aload_n C dX5_back_7 0 rfl rfl ?_
    refine k_bipush C (v := (-5 : Int32)) dX5_back_8 (by decide) ?_
    obtain ⟨x5, hx5, h⟩ := bindE h
    refine kcallU_i C (wc := (cells_R_no cI cL cZ a_this a_gravel a_kind a_own a_likely a_tape a_holding a_rowLength a_rowOf a_refusals a_old a_ahead a_cost a_may a_rest a_way c_n c_rain c_ear c_many c_seed c_taped c_from c_to c_token c_value c_imaged c_refusals)) (w1 := (cells_R_no cI cL cZ a_this a_gravel a_kind a_own a_likely a_tape a_holding a_rowLength a_rowOf a_refusals a_old a_ahead a_cost a_may a_rest a_way c_n c_rain c_ear c_many c_seed c_taped c_from c_to c_token c_value c_imaged x5.2)) (ws' := (cells_R_back cI cL cZ a_this a_gravel a_kind a_own a_likely a_tape a_holding a_rowLength a_rowOf a_refusals a_old a_ahead a_cost a_may a_rest a_way c_n c_rain c_ear c_many c_seed c_taped c_from c_to c_token c_value c_imaged c_gravel c_kind c_own c_likely c_holding x5.2 c_old)) (r := x5.1) [0, 6] (fun H locs ls hP hD hS hF hz => krunV C (q0 := 0) (ci := 5) (c_R_no l D cI cL cZ H.size a_this a_gravel a_kind a_own a_likely a_tape a_holding a_rowLength a_rowOf a_refusals a_old a_ahead a_cost a_may a_rest a_way (-5 : Int32) c_n c_rain c_ear c_many c_seed c_taped c_from c_to c_token c_value c_imaged c_refusals x5 hx5) (cwV 1 C.2.2.2.2.1 (gV wq_558 wq_559 wq_560 wq_551 wq_557) rfl rfl rfl (by decide +kernel) ⟨(Nat.le_of_ble_eq_true rfl), (Nat.le_of_ble_eq_true rfl)⟩) rfl rfl kEnv_T rfl rfl (Nat.le_of_ble_eq_true rfl) dX5_back_10 hP hD hz) rfl (by decide) rfl rfl ?_
    obtain rfl := Option.some.inj h
    exact kret_i C rfl dX5_back_13
theorem c_R_back (l : Launch) (D : va_G) (cI : ClassId) (cL : ClassId) (cZ : ClassId) (sz : Nat) (a_this : Nat) (a_gravel : Nat) (a_kind : Nat) (a_own : Nat) (a_likely : Nat) (a_tape : Nat) (a_holding : Nat) (a_rowLength : Nat) (a_rowOf : Nat) (a_refusals : Nat) (a_old : Nat) (a_ahead : Nat) (a_cost : Nat) (a_may : Nat) (a_rest : Nat) (a_way : Nat) (c_n : Int32) (c_rain : Int32) (c_ear : Int32) (c_many : Int32) (c_seed : Int32) (c_taped : Int32) (c_from : Int32) (c_to : Int32) (c_token : Int32) (c_value : Int32) (c_imaged : Int32) (c_gravel : (Nat → Int32)) (c_kind : (Nat → Int32)) (c_own : (Nat → Int32)) (c_likely : (Nat → Int32)) (c_holding : (Nat → Int32)) (c_refusals : (Nat → Int32)) (c_old : (Nat → Int32)) (x : (Int32 × Int32 × Int32 × Int32 × Int32 × Int32 × (Nat → Int32) × (Nat → Int32) × (Nat → Int32) × (Nat → Int32) × (Nat → Int32) × (Nat → Int32))) (h : f_R_back c_n c_rain c_ear c_many c_seed c_imaged c_gravel c_kind c_own c_likely c_holding c_refusals c_old = some x) :
    Met l yX5_back (Cond.code yX5_back cX5_back 2 (some .int) :: WS) rm_R_back (kP D (tyG cI cL cZ) kTrue [.ref a_this] sz (cells_R_back cI cL cZ a_this a_gravel a_kind a_own a_likely a_tape a_holding a_rowLength a_rowOf a_refusals a_old a_ahead a_cost a_may a_rest a_way c_n c_rain c_ear c_many c_seed c_taped c_from c_to c_token c_value c_imaged c_gravel c_kind c_own c_likely c_holding c_refusals c_old)) (kQi D (va_A (cells_R_back cI cL cZ a_this a_gravel a_kind a_own a_likely a_tape a_holding a_rowLength a_rowOf a_refusals a_old a_ahead a_cost a_may a_rest a_way c_n c_rain c_ear c_many c_seed c_taped c_from c_to c_token c_value c_imaged c_gravel c_kind c_own c_likely c_holding c_refusals c_old) sz) (cells_R_back cI cL cZ a_this a_gravel a_kind a_own a_likely a_tape a_holding a_rowLength a_rowOf a_refusals a_old a_ahead a_cost a_may a_rest a_way x.2.1 x.2.2.1 x.2.2.2.1 x.2.2.2.2.1 x.2.2.2.2.2.1 c_taped c_from c_to c_token c_value c_imaged x.2.2.2.2.2.2.1 x.2.2.2.2.2.2.2.1 x.2.2.2.2.2.2.2.2.1 x.2.2.2.2.2.2.2.2.2.1 x.2.2.2.2.2.2.2.2.2.2.1 x.2.2.2.2.2.2.2.2.2.2.2 c_old) x.1) 0 0 (va_A (cells_R_back cI cL cZ a_this a_gravel a_kind a_own a_likely a_tape a_holding a_rowLength a_rowOf a_refusals a_old a_ahead a_cost a_may a_rest a_way c_n c_rain c_ear c_many c_seed c_taped c_from c_to c_token c_value c_imaged c_gravel c_kind c_own c_likely c_holding c_refusals c_old) sz) :=
  kmet (by decide) (Nat.le_of_ble_eq_true rfl) rfl (fun p e s m below meth c C hE => s_R_back C h)
abbrev cells_R_status (cI : ClassId) (cL : ClassId) (cZ : ClassId) (a_this : Nat) (a_gravel : Nat) (a_kind : Nat) (a_own : Nat) (a_likely : Nat) (a_tape : Nat) (a_holding : Nat) (a_rowLength : Nat) (a_rowOf : Nat) (a_refusals : Nat) (a_old : Nat) (a_ahead : Nat) (a_cost : Nat) (a_may : Nat) (a_rest : Nat) (a_way : Nat) (c_n : Int32) (c_rain : Int32) (c_ear : Int32) (c_many : Int32) (c_seed : Int32) (c_taped : Int32) (c_from : Int32) (c_to : Int32) (c_token : Int32) (c_value : Int32) (c_imaged : Int32) (c_gravel : (Nat → Int32)) (c_likely : (Nat → Int32)) (c_holding : (Nat → Int32)) (c_refusals : (Nat → Int32)) : va_W := [(a_this, .inr (5, [.int c_n, .ref a_gravel, .int c_rain, .int c_ear, .int c_many, .ref a_kind, .ref a_own, .ref a_likely, .int c_seed, .int c_taped, .ref a_tape, .int c_from, .int c_to, .int c_token, .int c_value, .ref a_holding, .ref a_rowLength, .ref a_rowOf, .ref a_refusals, .int c_imaged, .ref a_old, .ref a_ahead, .ref a_cost, .ref a_may, .ref a_rest, .ref a_way])), (a_gravel, .inl (cI, 36, .inl c_gravel)), (a_likely, .inl (cI, 8, .inl c_likely)), (a_holding, .inl (cI, 8, .inl c_holding)), (a_refusals, .inl (cI, 7, .inl c_refusals))]
abbrev rm_R_status : Room := { frames := 1, cells := 0, slots := 0, locals := 22 }
set_option maxRecDepth 100000 in
set_option maxHeartbeats 4000000 in
theorem s_R_status_b94 (C : kC p l e rm_R_status s m args below meth c D (tyG cI cL cZ) A 4 cX5_status yX5_status.cls (Cond.code yX5_status cX5_status 4 (some .int) :: WS) (some .int)) {a_this : Nat} {a_gravel : Nat} {a_kind : Nat} {a_own : Nat} {a_likely : Nat} {a_tape : Nat} {a_holding : Nat} {a_rowLength : Nat} {a_rowOf : Nat} {a_refusals : Nat} {a_old : Nat} {a_ahead : Nat} {a_cost : Nat} {a_may : Nat} {a_rest : Nat} {a_way : Nat} {v2 : Int32} {v3 : Int32} {c_n : Int32} {c_rain : Int32} {c_ear : Int32} {c_many : Int32} {c_seed : Int32} {c_taped : Int32} {c_from : Int32} {c_to : Int32} {c_token : Int32} {c_value : Int32} {c_imaged : Int32} {c_gravel : (Nat → Int32)} {c_likely : (Nat → Int32)} {c_holding : (Nat → Int32)} {c_refusals : (Nat → Int32)} {x : ((Int32 × Int32) ⊕ Int32)} (h : f_R_status_b94 c_holding v2 v3 = some x)
    (kc : ∀ s', x = .inl s' → kW p l e rm_R_status s m args below meth c D A 4 (cells_R_status cI cL cZ a_this a_gravel a_kind a_own a_likely a_tape a_holding a_rowLength a_rowOf a_refusals a_old a_ahead a_cost a_may a_rest a_way c_n c_rain c_ear c_many c_seed c_taped c_from c_to c_token c_value c_imaged c_gravel c_likely c_holding c_refusals) [(0, .ref a_this), (2, .int s'.1), (3, .int s'.2)] Q 94 [])
    (k0 : ∀ r, x = .inr r → kW p l e rm_R_status s m args below meth c D A 4 (cells_R_status cI cL cZ a_this a_gravel a_kind a_own a_likely a_tape a_holding a_rowLength a_rowOf a_refusals a_old a_ahead a_cost a_may a_rest a_way c_n c_rain c_ear c_many c_seed c_taped c_from c_to c_token c_value c_imaged c_gravel c_likely c_holding c_refusals) [(2, .int r)] Q 119 []) :
    kW p l e rm_R_status s m args below meth c D A 4 (cells_R_status cI cL cZ a_this a_gravel a_kind a_own a_likely a_tape a_holding a_rowLength a_rowOf a_refusals a_old a_ahead a_cost a_may a_rest a_way c_n c_rain c_ear c_many c_seed c_taped c_from c_to c_token c_value c_imaged c_gravel c_likely c_holding c_refusals) [(0, .ref a_this), (2, .int v2), (3, .int v3)] Q 94 [] := by
  unfold f_R_status_b94 at h
  refine k_iload_n C dX5_status_94 2 rfl rfl ?_
  refine k_bipush C (v := (8 : Int32)) dX5_status_95 (by decide) ?_
  refine k_icmp_ge C (tgt := 119) dX5_status_97 (by decide) (fun c_97 => ?_) (fun c_97 => ?_)
  · have h := ifT c_97 h
    refine k_lv (lv' := [(2, .int v2)]) [1] rfl ?_
    exact k0 _ (Option.some.inj h).symm
  · have h := ifF c_97 h
    refine k_aload_n C dX5_status_100 0 rfl rfl ?_
    refine k_get C (C0 := RX5) (T := TX5) (N := 26) (fun w h => List.mem_cons_of_mem _ (us_R w h)) 0 rfl rfl 15 (by decide) (List.mem_cons_of_mem _ wq_553) rfl rfl dX5_status_101 ?_
    refine k_iload_n C dX5_status_104 2 rfl rfl ?_
    obtain ⟨x3, hx3, h⟩ := bindE h
    refine k_iald C 3 0 rfl rfl hx3 dX5_status_105 ?_
    refine k_iconst C (v := (-1 : Int32)) dX5_status_106 (by decide) ?_
    refine k_icmp_eq C (tgt := 113) dX5_status_107 (by decide) (fun c_107 => ?_) (fun c_107 => ?_)
    · have h := ifT c_107 h
      refine k_iinc C (v := (v3 + (1 : Int32))) (lv' := [(3, .int (v3 + (1 : Int32))), (0, .ref a_this), (2, .int v2)]) dX5_status_113 2 rfl rfl (by decide) rfl ?_
      refine k_goto C (tgt := 94) dX5_status_116 (by decide) ?_
      refine k_lv (lv' := [(0, .ref a_this), (2, .int v2), (3, .int (v3 + (1 : Int32)))]) [1, 2, 0] rfl ?_
      exact kc _ (Option.some.inj h).symm
    · have h := ifF c_107 h
      refine k_iinc C (v := (v2 + (1 : Int32))) (lv' := [(2, .int (v2 + (1 : Int32))), (0, .ref a_this), (3, .int v3)]) dX5_status_110 1 rfl rfl (by decide) rfl ?_
      refine k_iinc C (v := (v3 + (1 : Int32))) (lv' := [(3, .int (v3 + (1 : Int32))), (2, .int (v2 + (1 : Int32))), (0, .ref a_this)]) dX5_status_113 2 rfl rfl (by decide) rfl ?_
      refine k_goto C (tgt := 94) dX5_status_116 (by decide) ?_
      refine k_lv (lv' := [(0, .ref a_this), (2, .int (v2 + (1 : Int32))), (3, .int (v3 + (1 : Int32)))]) [2, 1, 0] rfl ?_
      exact kc _ (Option.some.inj h).symm
set_option maxRecDepth 100000 in
set_option maxHeartbeats 4000000 in
theorem s_R_status_l94 (C : kC p l e rm_R_status s m args below meth c D (tyG cI cL cZ) A 4 cX5_status yX5_status.cls (Cond.code yX5_status cX5_status 4 (some .int) :: WS) (some .int)) {a_this : Nat} {a_gravel : Nat} {a_kind : Nat} {a_own : Nat} {a_likely : Nat} {a_tape : Nat} {a_holding : Nat} {a_rowLength : Nat} {a_rowOf : Nat} {a_refusals : Nat} {a_old : Nat} {a_ahead : Nat} {a_cost : Nat} {a_may : Nat} {a_rest : Nat} {a_way : Nat} {v2 : Int32} {v3 : Int32} {c_n : Int32} {c_rain : Int32} {c_ear : Int32} {c_many : Int32} {c_seed : Int32} {c_taped : Int32} {c_from : Int32} {c_to : Int32} {c_token : Int32} {c_value : Int32} {c_imaged : Int32} {c_gravel : (Nat → Int32)} {c_likely : (Nat → Int32)} {c_holding : (Nat → Int32)} {c_refusals : (Nat → Int32)} {x : Int32} (h : f_R_status_l94 c_holding v2 v3 = some x)
    (k0 : kW p l e rm_R_status s m args below meth c D A 4 (cells_R_status cI cL cZ a_this a_gravel a_kind a_own a_likely a_tape a_holding a_rowLength a_rowOf a_refusals a_old a_ahead a_cost a_may a_rest a_way c_n c_rain c_ear c_many c_seed c_taped c_from c_to c_token c_value c_imaged c_gravel c_likely c_holding c_refusals) [(2, .int x)] Q 119 []) :
    kW p l e rm_R_status s m args below meth c D A 4 (cells_R_status cI cL cZ a_this a_gravel a_kind a_own a_likely a_tape a_holding a_rowLength a_rowOf a_refusals a_old a_ahead a_cost a_may a_rest a_way c_n c_rain c_ear c_many c_seed c_taped c_from c_to c_token c_value c_imaged c_gravel c_likely c_holding c_refusals) [(0, .ref a_this), (2, .int v2), (3, .int v3)] Q 94 [] := by
  unfold f_R_status_l94 at h
  exact iter_W (body := fun s => f_R_status_b94 c_holding s.1 s.2) (r := x) (T := fun sg => kW p l e rm_R_status s m args below meth c D A 4 (cells_R_status cI cL cZ a_this a_gravel a_kind a_own a_likely a_tape a_holding a_rowLength a_rowOf a_refusals a_old a_ahead a_cost a_may a_rest a_way c_n c_rain c_ear c_many c_seed c_taped c_from c_to c_token c_value c_imaged c_gravel c_likely c_holding c_refusals) [(0, .ref a_this), (2, .int sg.1), (3, .int sg.2)] Q 94 []) (fun sg y hy hc _ hr => s_R_status_b94 C (v2 := sg.1) (v3 := sg.2) (c_n := c_n) (c_rain := c_rain) (c_ear := c_ear) (c_many := c_many) (c_seed := c_seed) (c_taped := c_taped) (c_from := c_from) (c_to := c_to) (c_token := c_token) (c_value := c_value) (c_imaged := c_imaged) (c_gravel := c_gravel) (c_likely := c_likely) (c_holding := c_holding) (c_refusals := c_refusals) (x := y) hy hc (fun r e => by rw [hr r e]; exact k0)) FUEL (v2, v3) h
set_option maxRecDepth 100000 in
set_option maxHeartbeats 4000000 in
theorem s_R_status (C : kC p l e rm_R_status s m args below meth c D (tyG cI cL cZ) A 4 cX5_status yX5_status.cls (Cond.code yX5_status cX5_status 4 (some .int) :: WS) (some .int)) {a_this : Nat} {a_gravel : Nat} {a_kind : Nat} {a_own : Nat} {a_likely : Nat} {a_tape : Nat} {a_holding : Nat} {a_rowLength : Nat} {a_rowOf : Nat} {a_refusals : Nat} {a_old : Nat} {a_ahead : Nat} {a_cost : Nat} {a_may : Nat} {a_rest : Nat} {a_way : Nat} {v1 : Int32} {c_n : Int32} {c_rain : Int32} {c_ear : Int32} {c_many : Int32} {c_seed : Int32} {c_taped : Int32} {c_from : Int32} {c_to : Int32} {c_token : Int32} {c_value : Int32} {c_imaged : Int32} {c_gravel : (Nat → Int32)} {c_likely : (Nat → Int32)} {c_holding : (Nat → Int32)} {c_refusals : (Nat → Int32)} {x : Int32} (h : f_R_status v1 c_n c_rain c_ear c_many c_seed c_taped c_gravel c_likely c_holding c_refusals = some x) :
    kW p l e rm_R_status s m args below meth c D A 4 (cells_R_status cI cL cZ a_this a_gravel a_kind a_own a_likely a_tape a_holding a_rowLength a_rowOf a_refusals a_old a_ahead a_cost a_may a_rest a_way c_n c_rain c_ear c_many c_seed c_taped c_from c_to c_token c_value c_imaged c_gravel c_likely c_holding c_refusals) [(0, .ref a_this), (1, .int v1)] (MQ below (kQi D A (cells_R_status cI cL cZ a_this a_gravel a_kind a_own a_likely a_tape a_holding a_rowLength a_rowOf a_refusals a_old a_ahead a_cost a_may a_rest a_way c_n c_rain c_ear c_many c_seed c_taped c_from c_to c_token c_value c_imaged c_gravel c_likely c_holding c_refusals) x) args s 0 0 A) 0 [] := by
  unfold f_R_status at h
  refine k_iconst C (v := (0 : Int32)) dX5_status_0 (by decide) ?_
  refine k_istore_n C (lv' := [(2, .int (0 : Int32)), (0, .ref a_this), (1, .int v1)]) dX5_status_1 rfl (by decide) rfl ?_
  refine k_iload_n C dX5_status_2 2 rfl rfl ?_
  by_cases e_3_0 : v1 = (0 : Int32)
  · have h := ifT e_3_0 h
    have z : Int32.toInt v1 = 0 := by rw [e_3_0]; decide
    refine k_tableIn C (off := 49) (tgt := 52) dX5_status_3 (by rw [z]; decide) (by rw [z]; decide) (by rw [z]; rfl) (by decide) ?_
    refine k_aload_n C dX5_status_52 1 rfl rfl ?_
    refine k_get C (C0 := RX5) (T := TX5) (N := 26) (fun w h => List.mem_cons_of_mem _ (us_R w h)) 0 rfl rfl 4 (by decide) (List.mem_cons_of_mem _ wq_547) rfl rfl dX5_status_53 ?_
    obtain rfl := Option.some.inj h
    exact kret_i C rfl dX5_status_56
  have h := ifF e_3_0 h
  by_cases e_3_1 : v1 = (1 : Int32)
  · have h := ifT e_3_1 h
    have z : Int32.toInt v1 = 1 := by rw [e_3_1]; decide
    refine k_tableIn C (off := 54) (tgt := 57) dX5_status_3 (by rw [z]; decide) (by rw [z]; decide) (by rw [z]; rfl) (by decide) ?_
    refine k_aload_n C dX5_status_57 1 rfl rfl ?_
    refine k_get C (C0 := RX5) (T := TX5) (N := 26) (fun w h => List.mem_cons_of_mem _ (us_R w h)) 0 rfl rfl 0 (by decide) (List.mem_cons_of_mem _ wq_552) rfl rfl dX5_status_58 ?_
    obtain rfl := Option.some.inj h
    exact kret_i C rfl dX5_status_61
  have h := ifF e_3_1 h
  by_cases e_3_2 : v1 = (2 : Int32)
  · have h := ifT e_3_2 h
    have z : Int32.toInt v1 = 2 := by rw [e_3_2]; decide
    refine k_tableIn C (off := 59) (tgt := 62) dX5_status_3 (by rw [z]; decide) (by rw [z]; decide) (by rw [z]; rfl) (by decide) ?_
    refine k_aload_n C dX5_status_62 1 rfl rfl ?_
    refine k_get C (C0 := RX5) (T := TX5) (N := 26) (fun w h => List.mem_cons_of_mem _ (us_R w h)) 0 rfl rfl 2 (by decide) (List.mem_cons_of_mem _ wq_579) rfl rfl dX5_status_63 ?_
    obtain rfl := Option.some.inj h
    exact kret_i C rfl dX5_status_66
  have h := ifF e_3_2 h
  by_cases e_3_3 : v1 = (3 : Int32)
  · have h := ifT e_3_3 h
    have z : Int32.toInt v1 = 3 := by rw [e_3_3]; decide
    refine k_tableIn C (off := 64) (tgt := 67) dX5_status_3 (by rw [z]; decide) (by rw [z]; decide) (by rw [z]; rfl) (by decide) ?_
    refine k_aload_n C dX5_status_67 1 rfl rfl ?_
    refine k_get C (C0 := RX5) (T := TX5) (N := 26) (fun w h => List.mem_cons_of_mem _ (us_R w h)) 0 rfl rfl 3 (by decide) (List.mem_cons_of_mem _ wq_603) rfl rfl dX5_status_68 ?_
    obtain rfl := Option.some.inj h
    exact kret_i C rfl dX5_status_71
  have h := ifF e_3_3 h
  by_cases e_3_4 : v1 = (4 : Int32)
  · have h := ifT e_3_4 h
    have z : Int32.toInt v1 = 4 := by rw [e_3_4]; decide
    refine k_tableIn C (off := 69) (tgt := 72) dX5_status_3 (by rw [z]; decide) (by rw [z]; decide) (by rw [z]; rfl) (by decide) ?_
    refine k_aload_n C dX5_status_72 1 rfl rfl ?_
    obtain ⟨x1, hx1, h⟩ := bindE h
    refine kcallR_i C (wc := (cells_R_allGravel cI cL cZ a_this a_gravel a_kind a_own a_likely a_tape a_holding a_rowLength a_rowOf a_refusals a_old a_ahead a_cost a_may a_rest a_way c_n c_rain c_ear c_many c_seed c_taped c_from c_to c_token c_value c_imaged c_gravel)) (r := x1) [0, 1] (fun H locs ls hP hD hS hF hz => krunV C (q0 := 0) (ci := 5) (c_R_allGravel l D cI cL cZ H.size a_this a_gravel a_kind a_own a_likely a_tape a_holding a_rowLength a_rowOf a_refusals a_old a_ahead a_cost a_may a_rest a_way c_n c_rain c_ear c_many c_seed c_taped c_from c_to c_token c_value c_imaged c_gravel x1 hx1) (cwV 0 C.2.2.2.2.1 (gV wq_788 wq_789 wq_790 wq_551 wq_787) rfl rfl rfl (by decide +kernel) ⟨(Nat.le_of_ble_eq_true rfl), (Nat.le_of_ble_eq_true rfl)⟩) rfl rfl kEnv_T rfl rfl (Nat.le_of_ble_eq_true rfl) dX5_status_73 hP hD hz) rfl (by decide) ?_
    obtain rfl := Option.some.inj h
    exact kret_i C rfl dX5_status_76
  have h := ifF e_3_4 h
  by_cases e_3_5 : v1 = (5 : Int32)
  · have h := ifT e_3_5 h
    have z : Int32.toInt v1 = 5 := by rw [e_3_5]; decide
    refine k_tableIn C (off := 74) (tgt := 77) dX5_status_3 (by rw [z]; decide) (by rw [z]; decide) (by rw [z]; rfl) (by decide) ?_
    refine k_aload_n C dX5_status_77 1 rfl rfl ?_
    obtain ⟨x2, hx2, h⟩ := bindE h
    refine kcallR_i C (wc := (cells_R_allLikely cI cL cZ a_this a_gravel a_kind a_own a_likely a_tape a_holding a_rowLength a_rowOf a_refusals a_old a_ahead a_cost a_may a_rest a_way c_n c_rain c_ear c_many c_seed c_taped c_from c_to c_token c_value c_imaged c_likely)) (r := x2) [0, 2] (fun H locs ls hP hD hS hF hz => krunV C (q0 := 0) (ci := 5) (c_R_allLikely l D cI cL cZ H.size a_this a_gravel a_kind a_own a_likely a_tape a_holding a_rowLength a_rowOf a_refusals a_old a_ahead a_cost a_may a_rest a_way c_n c_rain c_ear c_many c_seed c_taped c_from c_to c_token c_value c_imaged c_likely x2 hx2) (cwV 0 C.2.2.2.2.1 (gV wq_740 wq_741 wq_742 wq_551 wq_739) rfl rfl rfl (by decide +kernel) ⟨(Nat.le_of_ble_eq_true rfl), (Nat.le_of_ble_eq_true rfl)⟩) rfl rfl kEnv_T rfl rfl (Nat.le_of_ble_eq_true rfl) dX5_status_78 hP hD hz) rfl (by decide) ?_
    obtain rfl := Option.some.inj h
    exact kret_i C rfl dX5_status_81
  have h := ifF e_3_5 h
  by_cases e_3_6 : v1 = (6 : Int32)
  · have h := ifT e_3_6 h
    have z : Int32.toInt v1 = 6 := by rw [e_3_6]; decide
    refine k_tableIn C (off := 79) (tgt := 82) dX5_status_3 (by rw [z]; decide) (by rw [z]; decide) (by rw [z]; rfl) (by decide) ?_
    refine k_aload_n C dX5_status_82 1 rfl rfl ?_
    refine k_get C (C0 := RX5) (T := TX5) (N := 26) (fun w h => List.mem_cons_of_mem _ (us_R w h)) 0 rfl rfl 9 (by decide) (List.mem_cons_of_mem _ wq_608) rfl rfl dX5_status_83 ?_
    obtain rfl := Option.some.inj h
    exact kret_i C rfl dX5_status_86
  have h := ifF e_3_6 h
  by_cases e_3_7 : v1 = (7 : Int32)
  · have h := ifT e_3_7 h
    have z : Int32.toInt v1 = 7 := by rw [e_3_7]; decide
    refine k_tableIn C (off := 84) (tgt := 87) dX5_status_3 (by rw [z]; decide) (by rw [z]; decide) (by rw [z]; rfl) (by decide) ?_
    refine k_aload_n C dX5_status_87 1 rfl rfl ?_
    refine k_get C (C0 := RX5) (T := TX5) (N := 26) (fun w h => List.mem_cons_of_mem _ (us_R w h)) 0 rfl rfl 8 (by decide) (List.mem_cons_of_mem _ wq_638) rfl rfl dX5_status_88 ?_
    obtain rfl := Option.some.inj h
    exact kret_i C rfl dX5_status_91
  have h := ifF e_3_7 h
  by_cases e_3_8 : v1 = (8 : Int32)
  · have h := ifT e_3_8 h
    have z : Int32.toInt v1 = 8 := by rw [e_3_8]; decide
    refine k_tableIn C (off := 89) (tgt := 92) dX5_status_3 (by rw [z]; decide) (by rw [z]; decide) (by rw [z]; rfl) (by decide) ?_
    refine k_iconst C (v := (0 : Int32)) dX5_status_92 (by decide) ?_
    refine k_istore_n C (lv' := [(3, .int (0 : Int32)), (2, .int (0 : Int32)), (0, .ref a_this), (1, .int v1)]) dX5_status_93 rfl (by decide) rfl ?_
    obtain ⟨x4, hx4, h⟩ := bindE h
    refine k_lv (lv' := [(0, .ref a_this), (2, .int (0 : Int32)), (3, .int (0 : Int32))]) [2, 1, 0] rfl ?_
    refine s_R_status_l94 C hx4 ?_
    refine k_iload_n C dX5_status_119 0 rfl rfl ?_
    obtain rfl := Option.some.inj h
    exact kret_i C rfl dX5_status_120
  have h := ifF e_3_8 h
  have ze_3_0 := lv_neT e_3_0 (a := 0) (by decide)
  have ze_3_1 := lv_neT e_3_1 (a := 1) (by decide)
  have ze_3_2 := lv_neT e_3_2 (a := 2) (by decide)
  have ze_3_3 := lv_neT e_3_3 (a := 3) (by decide)
  have ze_3_4 := lv_neT e_3_4 (a := 4) (by decide)
  have ze_3_5 := lv_neT e_3_5 (a := 5) (by decide)
  have ze_3_6 := lv_neT e_3_6 (a := 6) (by decide)
  have ze_3_7 := lv_neT e_3_7 (a := 7) (by decide)
  have ze_3_8 := lv_neT e_3_8 (a := 8) (by decide)
  refine k_tableOut C (tgt := 121) dX5_status_3 (by omega) (by decide) ?_
  refine k_iload_n C dX5_status_121 2 rfl rfl ?_
  refine k_bipush C (v := (12 : Int32)) dX5_status_122 (by decide) ?_
  refine k_bipush C (v := (16 : Int32)) dX5_status_124 (by decide) ?_
  obtain ⟨x5, hx5, h⟩ := bindE h
  refine kcallE_i C (r := x5) (fun H locs ls hP hD hS hF hz => krunS C (c_R_within l D cI cL cZ H.size v1 (12 : Int32) (16 : Int32) x5 hx5) (va_cwS 3 C.2.2.2.2.1 (gS wq_549 wq_550 wq_551 wq_548) rfl rfl rfl (by decide +kernel) ⟨(Nat.le_of_ble_eq_true rfl), (Nat.le_of_ble_eq_true rfl)⟩) kEnv_T rfl rfl (Nat.le_of_ble_eq_true rfl) dX5_status_126 hP hD hz) ?_
  refine k_if_eq C (tgt := 144) dX5_status_129 (by decide) (fun c_129 => ?_) (fun c_129 => ?_)
  · have h := ifT c_129 h
    refine k_iconst C (v := (-1 : Int32)) dX5_status_144 (by decide) ?_
    obtain rfl := Option.some.inj h
    exact kret_i C rfl dX5_status_145
  · have h := ifF c_129 h
    refine k_aload_n C dX5_status_132 1 rfl rfl ?_
    refine k_get C (C0 := RX5) (T := TX5) (N := 26) (fun w h => List.mem_cons_of_mem _ (us_R w h)) 0 rfl rfl 18 (by decide) (List.mem_cons_of_mem _ wq_546) rfl rfl dX5_status_133 ?_
    refine k_iload_n C dX5_status_136 2 rfl rfl ?_
    refine k_bipush C (v := (10 : Int32)) dX5_status_137 (by decide) ?_
    refine k_isub C dX5_status_139 ?_
    obtain ⟨x6, hx6, h⟩ := bindE h
    refine k_iald C 4 0 rfl rfl hx6 dX5_status_140 ?_
    refine k_goto C (tgt := 145) dX5_status_141 (by decide) ?_
    obtain rfl := Option.some.inj h
    exact kret_i C rfl dX5_status_145
theorem c_R_status (l : Launch) (D : va_G) (cI : ClassId) (cL : ClassId) (cZ : ClassId) (sz : Nat) (a_this : Nat) (a_gravel : Nat) (a_kind : Nat) (a_own : Nat) (a_likely : Nat) (a_tape : Nat) (a_holding : Nat) (a_rowLength : Nat) (a_rowOf : Nat) (a_refusals : Nat) (a_old : Nat) (a_ahead : Nat) (a_cost : Nat) (a_may : Nat) (a_rest : Nat) (a_way : Nat) (v1 : Int32) (c_n : Int32) (c_rain : Int32) (c_ear : Int32) (c_many : Int32) (c_seed : Int32) (c_taped : Int32) (c_from : Int32) (c_to : Int32) (c_token : Int32) (c_value : Int32) (c_imaged : Int32) (c_gravel : (Nat → Int32)) (c_likely : (Nat → Int32)) (c_holding : (Nat → Int32)) (c_refusals : (Nat → Int32)) (x : Int32) (h : f_R_status v1 c_n c_rain c_ear c_many c_seed c_taped c_gravel c_likely c_holding c_refusals = some x) :
    Met l yX5_status (Cond.code yX5_status cX5_status 4 (some .int) :: WS) rm_R_status (kP D (tyG cI cL cZ) kTrue [.ref a_this, .int v1] sz (cells_R_status cI cL cZ a_this a_gravel a_kind a_own a_likely a_tape a_holding a_rowLength a_rowOf a_refusals a_old a_ahead a_cost a_may a_rest a_way c_n c_rain c_ear c_many c_seed c_taped c_from c_to c_token c_value c_imaged c_gravel c_likely c_holding c_refusals)) (kQi D (va_A (cells_R_status cI cL cZ a_this a_gravel a_kind a_own a_likely a_tape a_holding a_rowLength a_rowOf a_refusals a_old a_ahead a_cost a_may a_rest a_way c_n c_rain c_ear c_many c_seed c_taped c_from c_to c_token c_value c_imaged c_gravel c_likely c_holding c_refusals) sz) (cells_R_status cI cL cZ a_this a_gravel a_kind a_own a_likely a_tape a_holding a_rowLength a_rowOf a_refusals a_old a_ahead a_cost a_may a_rest a_way c_n c_rain c_ear c_many c_seed c_taped c_from c_to c_token c_value c_imaged c_gravel c_likely c_holding c_refusals) x) 0 0 (va_A (cells_R_status cI cL cZ a_this a_gravel a_kind a_own a_likely a_tape a_holding a_rowLength a_rowOf a_refusals a_old a_ahead a_cost a_may a_rest a_way c_n c_rain c_ear c_many c_seed c_taped c_from c_to c_token c_value c_imaged c_gravel c_likely c_holding c_refusals) sz) :=
  kmet (by decide) (Nat.le_of_ble_eq_true rfl) rfl (fun p e s m below meth c C hE => s_R_status C h)

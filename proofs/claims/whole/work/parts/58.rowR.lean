variable {p : Program} {l : Launch} {e : Env} {s : State} {m : MethodId} {args : Array Value} {below : List Frame} {meth : Method} {c : Code} {D : va_G} {A : Nat → Prop} {cI cL cZ : ClassId} {Q : State → Prop}
theorem c_R_likeliest (l : Launch) (D : va_G) (cI : ClassId) (cL : ClassId) (cZ : ClassId) (sz : Nat) (a_this : Nat) (a_gravel : Nat) (a_kind : Nat) (a_own : Nat) (a_likely : Nat) (a_tape : Nat) (a_holding : Nat) (a_rowLength : Nat) (a_rowOf : Nat) (a_refusals : Nat) (a_old : Nat) (a_ahead : Nat) (a_cost : Nat) (a_may : Nat) (a_rest : Nat) (a_way : Nat) (v1 : Int32) (c_n : Int32) (c_rain : Int32) (c_ear : Int32) (c_many : Int32) (c_seed : Int32) (c_taped : Int32) (c_from : Int32) (c_to : Int32) (c_token : Int32) (c_value : Int32) (c_imaged : Int32) (c_likely : (Nat → Int32)) (x : Int32) (h : f_R_likeliest v1 c_many c_likely = some x) :
    Met l yX5_likeliest (Cond.code yX5_likeliest cX5_likeliest 4 (some .int) :: WS) rm_R_likeliest (kP D (tyG cI cL cZ) kTrue [.ref a_this, .int v1] sz (cells_R_likeliest cI cL cZ a_this a_gravel a_kind a_own a_likely a_tape a_holding a_rowLength a_rowOf a_refusals a_old a_ahead a_cost a_may a_rest a_way c_n c_rain c_ear c_many c_seed c_taped c_from c_to c_token c_value c_imaged c_likely)) (kQi D (va_A (cells_R_likeliest cI cL cZ a_this a_gravel a_kind a_own a_likely a_tape a_holding a_rowLength a_rowOf a_refusals a_old a_ahead a_cost a_may a_rest a_way c_n c_rain c_ear c_many c_seed c_taped c_from c_to c_token c_value c_imaged c_likely) sz) (cells_R_likeliest cI cL cZ a_this a_gravel a_kind a_own a_likely a_tape a_holding a_rowLength a_rowOf a_refusals a_old a_ahead a_cost a_may a_rest a_way c_n c_rain c_ear c_many c_seed c_taped c_from c_to c_token c_value c_imaged c_likely) x) 0 0 (va_A (cells_R_likeliest cI cL cZ a_this a_gravel a_kind a_own a_likely a_tape a_holding a_rowLength a_rowOf a_refusals a_old a_ahead a_cost a_may a_rest a_way c_n c_rain c_ear c_many c_seed c_taped c_from c_to c_token c_value c_imaged c_likely) sz) :=
  kmet (by decide) (Nat.le_of_ble_eq_true rfl) rfl (fun p e s m below meth c C hE => s_R_likeliest C h)
abbrev cells_R_sure (cI : ClassId) (cL : ClassId) (cZ : ClassId) (a_this : Nat) (a_gravel : Nat) (a_kind : Nat) (a_own : Nat) (a_likely : Nat) (a_tape : Nat) (a_holding : Nat) (a_rowLength : Nat) (a_rowOf : Nat) (a_refusals : Nat) (a_old : Nat) (a_ahead : Nat) (a_cost : Nat) (a_may : Nat) (a_rest : Nat) (a_way : Nat) (c_n : Int32) (c_rain : Int32) (c_ear : Int32) (c_many : Int32) (c_seed : Int32) (c_taped : Int32) (c_from : Int32) (c_to : Int32) (c_token : Int32) (c_value : Int32) (c_imaged : Int32) (c_gravel : (Nat → Int32)) (c_kind : (Nat → Int32)) (c_own : (Nat → Int32)) (c_rowOf : (Nat → Int64)) : va_W := [(a_this, .inr (5, [.int c_n, .ref a_gravel, .int c_rain, .int c_ear, .int c_many, .ref a_kind, .ref a_own, .ref a_likely, .int c_seed, .int c_taped, .ref a_tape, .int c_from, .int c_to, .int c_token, .int c_value, .ref a_holding, .ref a_rowLength, .ref a_rowOf, .ref a_refusals, .int c_imaged, .ref a_old, .ref a_ahead, .ref a_cost, .ref a_may, .ref a_rest, .ref a_way])), (a_gravel, .inl (cI, 36, .inl c_gravel)), (a_kind, .inl (cI, 8, .inl c_kind)), (a_own, .inl (cI, 8, .inl c_own)), (a_rowOf, .inl (cL, 320, .inr (.inl c_rowOf)))]
abbrev rm_R_sure : Room := { frames := 4, cells := 0, slots := 0, locals := 102 }
set_option maxRecDepth 100000 in
set_option maxHeartbeats 4000000 in
theorem s_R_sure_b16 (C : kC p l e rm_R_sure s m args below meth c D (tyG cI cL cZ) A 6 cX5_sure yX5_sure.cls (Cond.code yX5_sure cX5_sure 6 (some .int) :: WS) (some .int)) {a_this : Nat} {a_gravel : Nat} {a_kind : Nat} {a_own : Nat} {a_likely : Nat} {a_tape : Nat} {a_holding : Nat} {a_rowLength : Nat} {a_rowOf : Nat} {a_refusals : Nat} {a_old : Nat} {a_ahead : Nat} {a_cost : Nat} {a_may : Nat} {a_rest : Nat} {a_way : Nat} {v1 : Int32} {v2 : Int32} {v3 : Int32} {v4 : Int32} {v5 : Int32} {c_n : Int32} {c_rain : Int32} {c_ear : Int32} {c_many : Int32} {c_seed : Int32} {c_taped : Int32} {c_from : Int32} {c_to : Int32} {c_token : Int32} {c_value : Int32} {c_imaged : Int32} {c_gravel : (Nat → Int32)} {c_kind : (Nat → Int32)} {c_own : (Nat → Int32)} {c_rowOf : (Nat → Int64)} {x : ((Int32 × Int32) ⊕ Int32)} (h : f_R_sure_b16 v1 v2 v3 c_n c_rain c_many c_gravel c_kind c_own c_rowOf v4 v5 = some x)
    (kc : ∀ s', x = .inl s' → kW p l e rm_R_sure s m args below meth c D A 6 (cells_R_sure cI cL cZ a_this a_gravel a_kind a_own a_likely a_tape a_holding a_rowLength a_rowOf a_refusals a_old a_ahead a_cost a_may a_rest a_way c_n c_rain c_ear c_many c_seed c_taped c_from c_to c_token c_value c_imaged c_gravel c_kind c_own c_rowOf) [(0, .ref a_this), (1, .int v1), (2, .int v2), (3, .int v3), (4, .int s'.1), (5, .int s'.2)] Q 16 [])
    (k0 : ∀ r, x = .inr r → kW p l e rm_R_sure s m args below meth c D A 6 (cells_R_sure cI cL cZ a_this a_gravel a_kind a_own a_likely a_tape a_holding a_rowLength a_rowOf a_refusals a_old a_ahead a_cost a_may a_rest a_way c_n c_rain c_ear c_many c_seed c_taped c_from c_to c_token c_value c_imaged c_gravel c_kind c_own c_rowOf) [(0, .ref a_this), (1, .int v1), (2, .int v2), (3, .int v3), (4, .int r)] Q 46 []) :
    kW p l e rm_R_sure s m args below meth c D A 6 (cells_R_sure cI cL cZ a_this a_gravel a_kind a_own a_likely a_tape a_holding a_rowLength a_rowOf a_refusals a_old a_ahead a_cost a_may a_rest a_way c_n c_rain c_ear c_many c_seed c_taped c_from c_to c_token c_value c_imaged c_gravel c_kind c_own c_rowOf) [(0, .ref a_this), (1, .int v1), (2, .int v2), (3, .int v3), (4, .int v4), (5, .int v5)] Q 16 [] := by
  unfold f_R_sure_b16 at h
  refine k_iload C dX5_sure_16 5 rfl ?_
  refine k_aload_n C dX5_sure_18 0 rfl rfl ?_
  refine k_get C (C0 := RX5) (T := TX5) (N := 26) (fun w h => List.mem_cons_of_mem _ (us_R w h)) 0 rfl rfl 4 (by decide) (List.mem_cons_of_mem _ wq_547) rfl rfl dX5_sure_19 ?_
  refine k_icmp_ge C (tgt := 46) dX5_sure_22 (by decide) (fun c_22 => ?_) (fun c_22 => ?_)
  · have h := ifT c_22 h
    refine k_lv (lv' := [(0, .ref a_this), (1, .int v1), (2, .int v2), (3, .int v3), (4, .int v4)]) [0, 1, 2, 3, 4] rfl ?_
    exact k0 _ (Option.some.inj h).symm
  · have h := ifF c_22 h
    refine k_aload_n C dX5_sure_25 0 rfl rfl ?_
    refine k_iload_n C dX5_sure_26 1 rfl rfl ?_
    refine k_iload C dX5_sure_27 5 rfl ?_
    refine k_iload_n C dX5_sure_29 2 rfl rfl ?_
    obtain ⟨x1, hx1, h⟩ := bindE h
    refine kcallR_i C (wc := (cells_R_fits cI cL cZ a_this a_gravel a_kind a_own a_likely a_tape a_holding a_rowLength a_rowOf a_refusals a_old a_ahead a_cost a_may a_rest a_way c_n c_rain c_ear c_many c_seed c_taped c_from c_to c_token c_value c_imaged c_gravel c_kind c_own c_rowOf)) (r := x1) [0, 1, 2, 3, 4] (fun H locs ls hP hD hS hF hz => krunV C (q0 := 0) (ci := 5) (c_R_fits l D cI cL cZ H.size a_this a_gravel a_kind a_own a_likely a_tape a_holding a_rowLength a_rowOf a_refusals a_old a_ahead a_cost a_may a_rest a_way v1 v5 v2 c_n c_rain c_ear c_many c_seed c_taped c_from c_to c_token c_value c_imaged c_gravel c_kind c_own c_rowOf x1 hx1) (cwV 3 C.2.2.2.2.1 (gV wq_748 wq_749 wq_750 wq_551 wq_747) rfl rfl rfl (by decide +kernel) ⟨(Nat.le_of_ble_eq_true rfl), (Nat.le_of_ble_eq_true rfl)⟩) rfl rfl kEnv_T rfl rfl (Nat.le_of_ble_eq_true rfl) dX5_sure_30 hP hD hz) rfl (by decide) ?_
    refine k_iload_n C dX5_sure_33 3 rfl rfl ?_
    refine k_icmp_lt C (tgt := 40) dX5_sure_34 (by decide) (fun c_34 => ?_) (fun c_34 => ?_)
    · have h := ifT c_34 h
      refine k_iinc C (v := (v5 + (1 : Int32))) (lv' := [(5, .int (v5 + (1 : Int32))), (0, .ref a_this), (1, .int v1), (2, .int v2), (3, .int v3), (4, .int v4)]) dX5_sure_40 5 rfl rfl (by decide) rfl ?_
      refine k_goto C (tgt := 16) dX5_sure_43 (by decide) ?_
      refine k_lv (lv' := [(0, .ref a_this), (1, .int v1), (2, .int v2), (3, .int v3), (4, .int v4), (5, .int (v5 + (1 : Int32)))]) [1, 2, 3, 4, 5, 0] rfl ?_
      exact kc _ (Option.some.inj h).symm
    · have h := ifF c_34 h
      refine k_iinc C (v := (v4 + (1 : Int32))) (lv' := [(4, .int (v4 + (1 : Int32))), (0, .ref a_this), (1, .int v1), (2, .int v2), (3, .int v3), (5, .int v5)]) dX5_sure_37 4 rfl rfl (by decide) rfl ?_
      refine k_iinc C (v := (v5 + (1 : Int32))) (lv' := [(5, .int (v5 + (1 : Int32))), (4, .int (v4 + (1 : Int32))), (0, .ref a_this), (1, .int v1), (2, .int v2), (3, .int v3)]) dX5_sure_40 5 rfl rfl (by decide) rfl ?_
      refine k_goto C (tgt := 16) dX5_sure_43 (by decide) ?_
      refine k_lv (lv' := [(0, .ref a_this), (1, .int v1), (2, .int v2), (3, .int v3), (4, .int (v4 + (1 : Int32))), (5, .int (v5 + (1 : Int32)))]) [2, 3, 4, 5, 1, 0] rfl ?_
      exact kc _ (Option.some.inj h).symm
set_option maxRecDepth 100000 in
set_option maxHeartbeats 4000000 in
theorem s_R_sure_l16 (C : kC p l e rm_R_sure s m args below meth c D (tyG cI cL cZ) A 6 cX5_sure yX5_sure.cls (Cond.code yX5_sure cX5_sure 6 (some .int) :: WS) (some .int)) {a_this : Nat} {a_gravel : Nat} {a_kind : Nat} {a_own : Nat} {a_likely : Nat} {a_tape : Nat} {a_holding : Nat} {a_rowLength : Nat} {a_rowOf : Nat} {a_refusals : Nat} {a_old : Nat} {a_ahead : Nat} {a_cost : Nat} {a_may : Nat} {a_rest : Nat} {a_way : Nat} {v1 : Int32} {v2 : Int32} {v3 : Int32} {v4 : Int32} {v5 : Int32} {c_n : Int32} {c_rain : Int32} {c_ear : Int32} {c_many : Int32} {c_seed : Int32} {c_taped : Int32} {c_from : Int32} {c_to : Int32} {c_token : Int32} {c_value : Int32} {c_imaged : Int32} {c_gravel : (Nat → Int32)} {c_kind : (Nat → Int32)} {c_own : (Nat → Int32)} {c_rowOf : (Nat → Int64)} {x : Int32} (h : f_R_sure_l16 v1 v2 v3 c_n c_rain c_many c_gravel c_kind c_own c_rowOf v4 v5 = some x)
    (k0 : kW p l e rm_R_sure s m args below meth c D A 6 (cells_R_sure cI cL cZ a_this a_gravel a_kind a_own a_likely a_tape a_holding a_rowLength a_rowOf a_refusals a_old a_ahead a_cost a_may a_rest a_way c_n c_rain c_ear c_many c_seed c_taped c_from c_to c_token c_value c_imaged c_gravel c_kind c_own c_rowOf) [(0, .ref a_this), (1, .int v1), (2, .int v2), (3, .int v3), (4, .int x)] Q 46 []) :
    kW p l e rm_R_sure s m args below meth c D A 6 (cells_R_sure cI cL cZ a_this a_gravel a_kind a_own a_likely a_tape a_holding a_rowLength a_rowOf a_refusals a_old a_ahead a_cost a_may a_rest a_way c_n c_rain c_ear c_many c_seed c_taped c_from c_to c_token c_value c_imaged c_gravel c_kind c_own c_rowOf) [(0, .ref a_this), (1, .int v1), (2, .int v2), (3, .int v3), (4, .int v4), (5, .int v5)] Q 16 [] := by
  unfold f_R_sure_l16 at h
  exact iter_W (body := fun s => f_R_sure_b16 v1 v2 v3 c_n c_rain c_many c_gravel c_kind c_own c_rowOf s.1 s.2) (r := x) (T := fun sg => kW p l e rm_R_sure s m args below meth c D A 6 (cells_R_sure cI cL cZ a_this a_gravel a_kind a_own a_likely a_tape a_holding a_rowLength a_rowOf a_refusals a_old a_ahead a_cost a_may a_rest a_way c_n c_rain c_ear c_many c_seed c_taped c_from c_to c_token c_value c_imaged c_gravel c_kind c_own c_rowOf) [(0, .ref a_this), (1, .int v1), (2, .int v2), (3, .int v3), (4, .int sg.1), (5, .int sg.2)] Q 16 []) (fun sg y hy hc _ hr => s_R_sure_b16 C (v1 := v1) (v2 := v2) (v3 := v3) (v4 := sg.1) (v5 := sg.2) (c_n := c_n) (c_rain := c_rain) (c_ear := c_ear) (c_many := c_many) (c_seed := c_seed) (c_taped := c_taped) (c_from := c_from) (c_to := c_to) (c_token := c_token) (c_value := c_value) (c_imaged := c_imaged) (c_gravel := c_gravel) (c_kind := c_kind) (c_own := c_own) (c_rowOf := c_rowOf) (x := y) hy hc (fun r e => by rw [hr r e]; exact k0)) FUEL (v4, v5) h
set_option maxRecDepth 100000 in
set_option maxHeartbeats 4000000 in
theorem s_R_sure_b2 (C : kC p l e rm_R_sure s m args below meth c D (tyG cI cL cZ) A 6 cX5_sure yX5_sure.cls (Cond.code yX5_sure cX5_sure 6 (some .int) :: WS) (some .int)) {a_this : Nat} {a_gravel : Nat} {a_kind : Nat} {a_own : Nat} {a_likely : Nat} {a_tape : Nat} {a_holding : Nat} {a_rowLength : Nat} {a_rowOf : Nat} {a_refusals : Nat} {a_old : Nat} {a_ahead : Nat} {a_cost : Nat} {a_may : Nat} {a_rest : Nat} {a_way : Nat} {v1 : Int32} {v2 : Int32} {v3 : Int32} {c_n : Int32} {c_rain : Int32} {c_ear : Int32} {c_many : Int32} {c_seed : Int32} {c_taped : Int32} {c_from : Int32} {c_to : Int32} {c_token : Int32} {c_value : Int32} {c_imaged : Int32} {c_gravel : (Nat → Int32)} {c_kind : (Nat → Int32)} {c_own : (Nat → Int32)} {c_rowOf : (Nat → Int64)} {x : (Int32 ⊕ (Int32 ⊕ Unit))} (h : f_R_sure_b2 v1 v2 c_n c_rain c_many c_gravel c_kind c_own c_rowOf v3 = some x)
    (kc : ∀ s', x = .inl s' → kW p l e rm_R_sure s m args below meth c D A 6 (cells_R_sure cI cL cZ a_this a_gravel a_kind a_own a_likely a_tape a_holding a_rowLength a_rowOf a_refusals a_old a_ahead a_cost a_may a_rest a_way c_n c_rain c_ear c_many c_seed c_taped c_from c_to c_token c_value c_imaged c_gravel c_kind c_own c_rowOf) [(0, .ref a_this), (1, .int v1), (2, .int v2), (3, .int s')] Q 2 [])
    (k0 : ∀ r, x = .inr (.inl r) → kW p l e rm_R_sure s m args below meth c D A 6 (cells_R_sure cI cL cZ a_this a_gravel a_kind a_own a_likely a_tape a_holding a_rowLength a_rowOf a_refusals a_old a_ahead a_cost a_may a_rest a_way c_n c_rain c_ear c_many c_seed c_taped c_from c_to c_token c_value c_imaged c_gravel c_kind c_own c_rowOf) [(3, .int r)] Q 52 [])
    (k1 : ∀ r, x = .inr (.inr r) → kW p l e rm_R_sure s m args below meth c D A 6 (cells_R_sure cI cL cZ a_this a_gravel a_kind a_own a_likely a_tape a_holding a_rowLength a_rowOf a_refusals a_old a_ahead a_cost a_may a_rest a_way c_n c_rain c_ear c_many c_seed c_taped c_from c_to c_token c_value c_imaged c_gravel c_kind c_own c_rowOf) [] Q 60 []) :
    kW p l e rm_R_sure s m args below meth c D A 6 (cells_R_sure cI cL cZ a_this a_gravel a_kind a_own a_likely a_tape a_holding a_rowLength a_rowOf a_refusals a_old a_ahead a_cost a_may a_rest a_way c_n c_rain c_ear c_many c_seed c_taped c_from c_to c_token c_value c_imaged c_gravel c_kind c_own c_rowOf) [(0, .ref a_this), (1, .int v1), (2, .int v2), (3, .int v3)] Q 2 [] := by
  unfold f_R_sure_b2 at h
  refine k_iload_n C dX5_sure_2 3 rfl rfl ?_
  refine k_aload_n C dX5_sure_3 0 rfl rfl ?_
  refine k_get C (C0 := RX5) (T := TX5) (N := 26) (fun w h => List.mem_cons_of_mem _ (us_R w h)) 0 rfl rfl 0 (by decide) (List.mem_cons_of_mem _ wq_552) rfl rfl dX5_sure_4 ?_
  refine k_icmp_gt C (tgt := 60) dX5_sure_7 (by decide) (fun c_7 => ?_) (fun c_7 => ?_)
  · have h := ifT c_7 h
    refine k_lv (lv' := []) [] rfl ?_
    exact k1 _ (Option.some.inj h).symm
  · have h := ifF c_7 h
    refine k_iconst C (v := (0 : Int32)) dX5_sure_10 (by decide) ?_
    refine k_istore C (lv' := [(4, .int (0 : Int32)), (0, .ref a_this), (1, .int v1), (2, .int v2), (3, .int v3)]) dX5_sure_11 (by decide) rfl ?_
    refine k_iconst C (v := (0 : Int32)) dX5_sure_13 (by decide) ?_
    refine k_istore C (lv' := [(5, .int (0 : Int32)), (4, .int (0 : Int32)), (0, .ref a_this), (1, .int v1), (2, .int v2), (3, .int v3)]) dX5_sure_14 (by decide) rfl ?_
    obtain ⟨x2, hx2, h⟩ := bindE h
    refine k_lv (lv' := [(0, .ref a_this), (1, .int v1), (2, .int v2), (3, .int v3), (4, .int (0 : Int32)), (5, .int (0 : Int32))]) [2, 3, 4, 5, 1, 0] rfl ?_
    refine s_R_sure_l16 C hx2 ?_
    refine k_iload C dX5_sure_46 4 rfl ?_
    refine k_iconst C (v := (1 : Int32)) dX5_sure_48 (by decide) ?_
    refine k_icmp_ne C (tgt := 54) dX5_sure_49 (by decide) (fun c_49 => ?_) (fun c_49 => ?_)
    · have h := ifF c_49 h
      refine k_iinc C (v := (v3 + (1 : Int32))) (lv' := [(3, .int (v3 + (1 : Int32))), (0, .ref a_this), (1, .int v1), (2, .int v2), (4, .int x2)]) dX5_sure_54 3 rfl rfl (by decide) rfl ?_
      refine k_goto C (tgt := 2) dX5_sure_57 (by decide) ?_
      refine k_lv (lv' := [(0, .ref a_this), (1, .int v1), (2, .int v2), (3, .int (v3 + (1 : Int32)))]) [1, 2, 3, 0] rfl ?_
      exact kc _ (Option.some.inj h).symm
    · have h := ifT c_49 h
      refine k_lv (lv' := [(3, .int v3)]) [3] rfl ?_
      exact k0 _ (Option.some.inj h).symm
set_option maxRecDepth 100000 in
set_option maxHeartbeats 4000000 in
theorem s_R_sure_l2 (C : kC p l e rm_R_sure s m args below meth c D (tyG cI cL cZ) A 6 cX5_sure yX5_sure.cls (Cond.code yX5_sure cX5_sure 6 (some .int) :: WS) (some .int)) {a_this : Nat} {a_gravel : Nat} {a_kind : Nat} {a_own : Nat} {a_likely : Nat} {a_tape : Nat} {a_holding : Nat} {a_rowLength : Nat} {a_rowOf : Nat} {a_refusals : Nat} {a_old : Nat} {a_ahead : Nat} {a_cost : Nat} {a_may : Nat} {a_rest : Nat} {a_way : Nat} {v1 : Int32} {v2 : Int32} {v3 : Int32} {c_n : Int32} {c_rain : Int32} {c_ear : Int32} {c_many : Int32} {c_seed : Int32} {c_taped : Int32} {c_from : Int32} {c_to : Int32} {c_token : Int32} {c_value : Int32} {c_imaged : Int32} {c_gravel : (Nat → Int32)} {c_kind : (Nat → Int32)} {c_own : (Nat → Int32)} {c_rowOf : (Nat → Int64)} {x : (Int32 ⊕ Unit)} (h : f_R_sure_l2 v1 v2 c_n c_rain c_many c_gravel c_kind c_own c_rowOf v3 = some x)
    (k0 : ∀ r, x = (.inl r) → kW p l e rm_R_sure s m args below meth c D A 6 (cells_R_sure cI cL cZ a_this a_gravel a_kind a_own a_likely a_tape a_holding a_rowLength a_rowOf a_refusals a_old a_ahead a_cost a_may a_rest a_way c_n c_rain c_ear c_many c_seed c_taped c_from c_to c_token c_value c_imaged c_gravel c_kind c_own c_rowOf) [(3, .int r)] Q 52 [])
    (k1 : ∀ r, x = (.inr r) → kW p l e rm_R_sure s m args below meth c D A 6 (cells_R_sure cI cL cZ a_this a_gravel a_kind a_own a_likely a_tape a_holding a_rowLength a_rowOf a_refusals a_old a_ahead a_cost a_may a_rest a_way c_n c_rain c_ear c_many c_seed c_taped c_from c_to c_token c_value c_imaged c_gravel c_kind c_own c_rowOf) [] Q 60 []) :
    kW p l e rm_R_sure s m args below meth c D A 6 (cells_R_sure cI cL cZ a_this a_gravel a_kind a_own a_likely a_tape a_holding a_rowLength a_rowOf a_refusals a_old a_ahead a_cost a_may a_rest a_way c_n c_rain c_ear c_many c_seed c_taped c_from c_to c_token c_value c_imaged c_gravel c_kind c_own c_rowOf) [(0, .ref a_this), (1, .int v1), (2, .int v2), (3, .int v3)] Q 2 [] := by
  unfold f_R_sure_l2 at h
  exact iter_W (body := fun s => f_R_sure_b2 v1 v2 c_n c_rain c_many c_gravel c_kind c_own c_rowOf s) (r := x) (T := fun sg => kW p l e rm_R_sure s m args below meth c D A 6 (cells_R_sure cI cL cZ a_this a_gravel a_kind a_own a_likely a_tape a_holding a_rowLength a_rowOf a_refusals a_old a_ahead a_cost a_may a_rest a_way c_n c_rain c_ear c_many c_seed c_taped c_from c_to c_token c_value c_imaged c_gravel c_kind c_own c_rowOf) [(0, .ref a_this), (1, .int v1), (2, .int v2), (3, .int sg)] Q 2 []) (fun sg y hy hc _ hr => s_R_sure_b2 C (v1 := v1) (v2 := v2) (v3 := sg) (c_n := c_n) (c_rain := c_rain) (c_ear := c_ear) (c_many := c_many) (c_seed := c_seed) (c_taped := c_taped) (c_from := c_from) (c_to := c_to) (c_token := c_token) (c_value := c_value) (c_imaged := c_imaged) (c_gravel := c_gravel) (c_kind := c_kind) (c_own := c_own) (c_rowOf := c_rowOf) (x := y) hy hc (fun r e => k0 r (hr _ e).symm) (fun r e => k1 r (hr _ e).symm)) FUEL v3 h
set_option maxRecDepth 100000 in
set_option maxHeartbeats 4000000 in
theorem s_R_sure (C : kC p l e rm_R_sure s m args below meth c D (tyG cI cL cZ) A 6 cX5_sure yX5_sure.cls (Cond.code yX5_sure cX5_sure 6 (some .int) :: WS) (some .int)) {a_this : Nat} {a_gravel : Nat} {a_kind : Nat} {a_own : Nat} {a_likely : Nat} {a_tape : Nat} {a_holding : Nat} {a_rowLength : Nat} {a_rowOf : Nat} {a_refusals : Nat} {a_old : Nat} {a_ahead : Nat} {a_cost : Nat} {a_may : Nat} {a_rest : Nat} {a_way : Nat} {v1 : Int32} {v2 : Int32} {c_n : Int32} {c_rain : Int32} {c_ear : Int32} {c_many : Int32} {c_seed : Int32} {c_taped : Int32} {c_from : Int32} {c_to : Int32} {c_token : Int32} {c_value : Int32} {c_imaged : Int32} {c_gravel : (Nat → Int32)} {c_kind : (Nat → Int32)} {c_own : (Nat → Int32)} {c_rowOf : (Nat → Int64)} {x : Int32} (h : f_R_sure v1 v2 c_n c_rain c_many c_gravel c_kind c_own c_rowOf = some x) :
    kW p l e rm_R_sure s m args below meth c D A 6 (cells_R_sure cI cL cZ a_this a_gravel a_kind a_own a_likely a_tape a_holding a_rowLength a_rowOf a_refusals a_old a_ahead a_cost a_may a_rest a_way c_n c_rain c_ear c_many c_seed c_taped c_from c_to c_token c_value c_imaged c_gravel c_kind c_own c_rowOf) [(0, .ref a_this), (1, .int v1), (2, .int v2)] (MQ below (kQi D A (cells_R_sure cI cL cZ a_this a_gravel a_kind a_own a_likely a_tape a_holding a_rowLength a_rowOf a_refusals a_old a_ahead a_cost a_may a_rest a_way c_n c_rain c_ear c_many c_seed c_taped c_from c_to c_token c_value c_imaged c_gravel c_kind c_own c_rowOf) x) args s 0 0 A) 0 [] := by
  unfold f_R_sure at h
  refine k_iconst C (v := (1 : Int32)) dX5_sure_0 (by decide) ?_
  refine k_istore_n C (lv' := [(3, .int (1 : Int32)), (0, .ref a_this), (1, .int v1), (2, .int v2)]) dX5_sure_1 rfl (by decide) rfl ?_
  obtain ⟨x3, hx3, h⟩ := bindE h
  refine k_lv (lv' := [(0, .ref a_this), (1, .int v1), (2, .int v2), (3, .int (1 : Int32))]) [1, 2, 3, 0] rfl ?_
  refine s_R_sure_l2 C hx3 ?_ ?_
  · intro x4 ex4
    subst ex4
    have h := sumL h
    refine k_iload_n C dX5_sure_52 0 rfl rfl ?_
    obtain rfl := Option.some.inj h
    exact kret_i C rfl dX5_sure_53
  · intro x5 ex5
    subst ex5
    have h := sumR h
    refine k_iconst C (v := (-1 : Int32)) dX5_sure_60 (by decide) ?_
    obtain rfl := Option.some.inj h
    exact kret_i C rfl dX5_sure_61
theorem c_R_sure (l : Launch) (D : va_G) (cI : ClassId) (cL : ClassId) (cZ : ClassId) (sz : Nat) (a_this : Nat) (a_gravel : Nat) (a_kind : Nat) (a_own : Nat) (a_likely : Nat) (a_tape : Nat) (a_holding : Nat) (a_rowLength : Nat) (a_rowOf : Nat) (a_refusals : Nat) (a_old : Nat) (a_ahead : Nat) (a_cost : Nat) (a_may : Nat) (a_rest : Nat) (a_way : Nat) (v1 : Int32) (v2 : Int32) (c_n : Int32) (c_rain : Int32) (c_ear : Int32) (c_many : Int32) (c_seed : Int32) (c_taped : Int32) (c_from : Int32) (c_to : Int32) (c_token : Int32) (c_value : Int32) (c_imaged : Int32) (c_gravel : (Nat → Int32)) (c_kind : (Nat → Int32)) (c_own : (Nat → Int32)) (c_rowOf : (Nat → Int64)) (x : Int32) (h : f_R_sure v1 v2 c_n c_rain c_many c_gravel c_kind c_own c_rowOf = some x) :
    Met l yX5_sure (Cond.code yX5_sure cX5_sure 6 (some .int) :: WS) rm_R_sure (kP D (tyG cI cL cZ) kTrue [.ref a_this, .int v1, .int v2] sz (cells_R_sure cI cL cZ a_this a_gravel a_kind a_own a_likely a_tape a_holding a_rowLength a_rowOf a_refusals a_old a_ahead a_cost a_may a_rest a_way c_n c_rain c_ear c_many c_seed c_taped c_from c_to c_token c_value c_imaged c_gravel c_kind c_own c_rowOf)) (kQi D (va_A (cells_R_sure cI cL cZ a_this a_gravel a_kind a_own a_likely a_tape a_holding a_rowLength a_rowOf a_refusals a_old a_ahead a_cost a_may a_rest a_way c_n c_rain c_ear c_many c_seed c_taped c_from c_to c_token c_value c_imaged c_gravel c_kind c_own c_rowOf) sz) (cells_R_sure cI cL cZ a_this a_gravel a_kind a_own a_likely a_tape a_holding a_rowLength a_rowOf a_refusals a_old a_ahead a_cost a_may a_rest a_way c_n c_rain c_ear c_many c_seed c_taped c_from c_to c_token c_value c_imaged c_gravel c_kind c_own c_rowOf) x) 0 0 (va_A (cells_R_sure cI cL cZ a_this a_gravel a_kind a_own a_likely a_tape a_holding a_rowLength a_rowOf a_refusals a_old a_ahead a_cost a_may a_rest a_way c_n c_rain c_ear c_many c_seed c_taped c_from c_to c_token c_value c_imaged c_gravel c_kind c_own c_rowOf) sz) :=
  kmet (by decide) (Nat.le_of_ble_eq_true rfl) rfl (fun p e s m below meth c C hE => s_R_sure C h)
abbrev cells_R_who (cI : ClassId) (cL : ClassId) (cZ : ClassId) (a_this : Nat) (a_gravel : Nat) (a_kind : Nat) (a_own : Nat) (a_likely : Nat) (a_tape : Nat) (a_holding : Nat) (a_rowLength : Nat) (a_rowOf : Nat) (a_refusals : Nat) (a_old : Nat) (a_ahead : Nat) (a_cost : Nat) (a_may : Nat) (a_rest : Nat) (a_way : Nat) (c_n : Int32) (c_rain : Int32) (c_ear : Int32) (c_many : Int32) (c_seed : Int32) (c_taped : Int32) (c_from : Int32) (c_to : Int32) (c_token : Int32) (c_value : Int32) (c_imaged : Int32) (c_gravel : (Nat → Int32)) (c_kind : (Nat → Int32)) (c_own : (Nat → Int32)) (c_likely : (Nat → Int32)) (c_holding : (Nat → Int32)) (c_rowLength : (Nat → Int32)) (c_rowOf : (Nat → Int64)) (c_refusals : (Nat → Int32)) : va_W := [(a_this, .inr (5, [.int c_n, .ref a_gravel, .int c_rain, .int c_ear, .int c_many, .ref a_kind, .ref a_own, .ref a_likely, .int c_seed, .int c_taped, .ref a_tape, .int c_from, .int c_to, .int c_token, .int c_value, .ref a_holding, .ref a_rowLength, .ref a_rowOf, .ref a_refusals, .int c_imaged, .ref a_old, .ref a_ahead, .ref a_cost, .ref a_may, .ref a_rest, .ref a_way])), (a_gravel, .inl (cI, 36, .inl c_gravel)), (a_kind, .inl (cI, 8, .inl c_kind)), (a_own, .inl (cI, 8, .inl c_own)), (a_likely, .inl (cI, 8, .inl c_likely)), (a_holding, .inl (cI, 8, .inl c_holding)), (a_rowLength, .inl (cI, 8, .inl c_rowLength)), (a_rowOf, .inl (cL, 320, .inr (.inl c_rowOf))), (a_refusals, .inl (cI, 7, .inl c_refusals))]
abbrev rm_R_who : Room := { frames := 5, cells := 0, slots := 0, locals := 127 }
set_option maxRecDepth 100000 in
set_option maxHeartbeats 4000000 in
theorem s_R_who_j24 (C : kC p l e rm_R_who s m args below meth c D (tyG cI cL cZ) A 8 cX5_who yX5_who.cls (Cond.code yX5_who cX5_who 8 (some .int) :: WS) (some .int)) {a_this : Nat} {a_gravel : Nat} {a_kind : Nat} {a_own : Nat} {a_likely : Nat} {a_tape : Nat} {a_holding : Nat} {a_rowLength : Nat} {a_rowOf : Nat} {a_refusals : Nat} {a_old : Nat} {a_ahead : Nat} {a_cost : Nat} {a_may : Nat} {a_rest : Nat} {a_way : Nat} {c_n : Int32} {c_rain : Int32} {c_ear : Int32} {c_many : Int32} {c_seed : Int32} {c_taped : Int32} {c_from : Int32} {c_to : Int32} {c_token : Int32} {c_value : Int32} {c_imaged : Int32} {c_gravel : (Nat → Int32)} {c_kind : (Nat → Int32)} {c_own : (Nat → Int32)} {c_likely : (Nat → Int32)} {c_holding : (Nat → Int32)} {c_rowLength : (Nat → Int32)} {c_rowOf : (Nat → Int64)} {c_refusals : (Nat → Int32)} {x : (Int32 × (Nat → Int32))} (h : f_R_who_j24 c_refusals = some x) :
    kW p l e rm_R_who s m args below meth c D A 8 (cells_R_who cI cL cZ a_this a_gravel a_kind a_own a_likely a_tape a_holding a_rowLength a_rowOf a_refusals a_old a_ahead a_cost a_may a_rest a_way c_n c_rain c_ear c_many c_seed c_taped c_from c_to c_token c_value c_imaged c_gravel c_kind c_own c_likely c_holding c_rowLength c_rowOf c_refusals) [(0, .ref a_this)] (MQ below (kQi D A (cells_R_who cI cL cZ a_this a_gravel a_kind a_own a_likely a_tape a_holding a_rowLength a_rowOf a_refusals a_old a_ahead a_cost a_may a_rest a_way c_n c_rain c_ear c_many c_seed c_taped c_from c_to c_token c_value c_imaged c_gravel c_kind c_own c_likely c_holding c_rowLength c_rowOf x.2) x.1) args s 0 0 A) 24 [] := by
  unfold f_R_who_j24 at h
  refine k_aload_n C dX5_who_24 0 rfl rfl ?_
  refine k_bipush C (v := (-2 : Int32)) dX5_who_25 (by decide) ?_
  obtain ⟨x2, hx2, h⟩ := bindE h
  refine kcallU_i C (wc := (cells_R_no cI cL cZ a_this a_gravel a_kind a_own a_likely a_tape a_holding a_rowLength a_rowOf a_refusals a_old a_ahead a_cost a_may a_rest a_way c_n c_rain c_ear c_many c_seed c_taped c_from c_to c_token c_value c_imaged c_refusals)) (w1 := (cells_R_no cI cL cZ a_this a_gravel a_kind a_own a_likely a_tape a_holding a_rowLength a_rowOf a_refusals a_old a_ahead a_cost a_may a_rest a_way c_n c_rain c_ear c_many c_seed c_taped c_from c_to c_token c_value c_imaged x2.2)) (ws' := (cells_R_who cI cL cZ a_this a_gravel a_kind a_own a_likely a_tape a_holding a_rowLength a_rowOf a_refusals a_old a_ahead a_cost a_may a_rest a_way c_n c_rain c_ear c_many c_seed c_taped c_from c_to c_token c_value c_imaged c_gravel c_kind c_own c_likely c_holding c_rowLength c_rowOf x2.2)) (r := x2.1) [0, 8] (fun H locs ls hP hD hS hF hz => krunV C (q0 := 0) (ci := 5) (c_R_no l D cI cL cZ H.size a_this a_gravel a_kind a_own a_likely a_tape a_holding a_rowLength a_rowOf a_refusals a_old a_ahead a_cost a_may a_rest a_way (-2 : Int32) c_n c_rain c_ear c_many c_seed c_taped c_from c_to c_token c_value c_imaged c_refusals x2 hx2) (cwV 1 C.2.2.2.2.1 (gV wq_558 wq_559 wq_560 wq_551 wq_557) rfl rfl rfl (by decide +kernel) ⟨(Nat.le_of_ble_eq_true rfl), (Nat.le_of_ble_eq_true rfl)⟩) rfl rfl kEnv_T rfl rfl (Nat.le_of_ble_eq_true rfl) dX5_who_27 hP hD hz) rfl (by decide) rfl rfl ?_
  obtain rfl := Option.some.inj h
  exact kret_i C rfl dX5_who_30
set_option maxRecDepth 100000 in
set_option maxHeartbeats 4000000 in
theorem s_R_who_b116 (C : kC p l e rm_R_who s m args below meth c D (tyG cI cL cZ) A 8 cX5_who yX5_who.cls (Cond.code yX5_who cX5_who 8 (some .int) :: WS) (some .int)) {a_this : Nat} {a_gravel : Nat} {a_kind : Nat} {a_own : Nat} {a_likely : Nat} {a_tape : Nat} {a_holding : Nat} {a_rowLength : Nat} {a_rowOf : Nat} {a_refusals : Nat} {a_old : Nat} {a_ahead : Nat} {a_cost : Nat} {a_may : Nat} {a_rest : Nat} {a_way : Nat} {v5 : Int32} {v6 : Int32} {v7 : Int32} {c_n : Int32} {c_rain : Int32} {c_ear : Int32} {c_many : Int32} {c_seed : Int32} {c_taped : Int32} {c_from : Int32} {c_to : Int32} {c_token : Int32} {c_value : Int32} {c_imaged : Int32} {c_gravel : (Nat → Int32)} {c_kind : (Nat → Int32)} {c_own : (Nat → Int32)} {c_likely : (Nat → Int32)} {c_holding : (Nat → Int32)} {c_rowLength : (Nat → Int32)} {c_rowOf : (Nat → Int64)} {c_refusals : (Nat → Int32)} {x : ((Int32 × Int32) ⊕ Int32)} (h : f_R_who_b116 v5 c_many c_likely v6 v7 = some x)
    (kc : ∀ s', x = .inl s' → kW p l e rm_R_who s m args below meth c D A 8 (cells_R_who cI cL cZ a_this a_gravel a_kind a_own a_likely a_tape a_holding a_rowLength a_rowOf a_refusals a_old a_ahead a_cost a_may a_rest a_way c_n c_rain c_ear c_many c_seed c_taped c_from c_to c_token c_value c_imaged c_gravel c_kind c_own c_likely c_holding c_rowLength c_rowOf c_refusals) [(0, .ref a_this), (5, .int v5), (6, .int s'.1), (7, .int s'.2)] Q 116 [])
    (k0 : ∀ r, x = .inr r → kW p l e rm_R_who s m args below meth c D A 8 (cells_R_who cI cL cZ a_this a_gravel a_kind a_own a_likely a_tape a_holding a_rowLength a_rowOf a_refusals a_old a_ahead a_cost a_may a_rest a_way c_n c_rain c_ear c_many c_seed c_taped c_from c_to c_token c_value c_imaged c_gravel c_kind c_own c_likely c_holding c_rowLength c_rowOf c_refusals) [(0, .ref a_this), (5, .int v5), (6, .int r)] Q 154 []) :
    kW p l e rm_R_who s m args below meth c D A 8 (cells_R_who cI cL cZ a_this a_gravel a_kind a_own a_likely a_tape a_holding a_rowLength a_rowOf a_refusals a_old a_ahead a_cost a_may a_rest a_way c_n c_rain c_ear c_many c_seed c_taped c_from c_to c_token c_value c_imaged c_gravel c_kind c_own c_likely c_holding c_rowLength c_rowOf c_refusals) [(0, .ref a_this), (5, .int v5), (6, .int v6), (7, .int v7)] Q 116 [] := by
  unfold f_R_who_b116 at h
  refine k_iload C dX5_who_116 3 rfl ?_
  refine k_aload_n C dX5_who_118 0 rfl rfl ?_
  refine k_get C (C0 := RX5) (T := TX5) (N := 26) (fun w h => List.mem_cons_of_mem _ (us_R w h)) 0 rfl rfl 4 (by decide) (List.mem_cons_of_mem _ wq_547) rfl rfl dX5_who_119 ?_
  refine k_icmp_ge C (tgt := 154) dX5_who_122 (by decide) (fun c_122 => ?_) (fun c_122 => ?_)
  · have h := ifT c_122 h
    refine k_lv (lv' := [(0, .ref a_this), (5, .int v5), (6, .int v6)]) [0, 1, 2] rfl ?_
    exact k0 _ (Option.some.inj h).symm
  · have h := ifF c_122 h
    refine k_iload C dX5_who_125 1 rfl ?_
    refine k_iload C dX5_who_127 3 rfl ?_
    refine k_ishr C dX5_who_129 ?_
    refine k_iconst C (v := (1 : Int32)) dX5_who_130 (by decide) ?_
    refine k_iand C dX5_who_131 ?_
    refine k_iconst C (v := (1 : Int32)) dX5_who_132 (by decide) ?_
    refine k_icmp_ne C (tgt := 148) dX5_who_133 (by decide) (fun c_133 => ?_) (fun c_133 => ?_)
    · have h := ifF c_133 h
      refine k_iinc C (v := (v7 + (1 : Int32))) (lv' := [(7, .int (v7 + (1 : Int32))), (0, .ref a_this), (5, .int v5), (6, .int v6)]) dX5_who_148 3 rfl rfl (by decide) rfl ?_
      refine k_goto C (tgt := 116) dX5_who_151 (by decide) ?_
      refine k_lv (lv' := [(0, .ref a_this), (5, .int v5), (6, .int v6), (7, .int (v7 + (1 : Int32)))]) [1, 2, 3, 0] rfl ?_
      exact kc _ (Option.some.inj h).symm
    · have h := ifT c_133 h
      refine k_iload C dX5_who_136 2 rfl ?_
      refine k_aload_n C dX5_who_138 0 rfl rfl ?_
      refine k_get C (C0 := RX5) (T := TX5) (N := 26) (fun w h => List.mem_cons_of_mem _ (us_R w h)) 0 rfl rfl 7 (by decide) (List.mem_cons_of_mem _ wq_594) rfl rfl dX5_who_139 ?_
      refine k_iload C dX5_who_142 3 rfl ?_
      obtain ⟨x7, hx7, h⟩ := bindE h
      refine k_iald C 4 0 rfl rfl hx7 dX5_who_144 ?_
      refine k_iadd C dX5_who_145 ?_
      refine k_istore C (lv' := [(6, .int (v6 + x7)), (0, .ref a_this), (5, .int v5), (7, .int v7)]) dX5_who_146 (by decide) rfl ?_
      refine k_iinc C (v := (v7 + (1 : Int32))) (lv' := [(7, .int (v7 + (1 : Int32))), (6, .int (v6 + x7)), (0, .ref a_this), (5, .int v5)]) dX5_who_148 3 rfl rfl (by decide) rfl ?_
      refine k_goto C (tgt := 116) dX5_who_151 (by decide) ?_
      refine k_lv (lv' := [(0, .ref a_this), (5, .int v5), (6, .int (v6 + x7)), (7, .int (v7 + (1 : Int32)))]) [2, 3, 1, 0] rfl ?_
      exact kc _ (Option.some.inj h).symm
set_option maxRecDepth 100000 in
set_option maxHeartbeats 4000000 in
theorem s_R_who_l116 (C : kC p l e rm_R_who s m args below meth c D (tyG cI cL cZ) A 8 cX5_who yX5_who.cls (Cond.code yX5_who cX5_who 8 (some .int) :: WS) (some .int)) {a_this : Nat} {a_gravel : Nat} {a_kind : Nat} {a_own : Nat} {a_likely : Nat} {a_tape : Nat} {a_holding : Nat} {a_rowLength : Nat} {a_rowOf : Nat} {a_refusals : Nat} {a_old : Nat} {a_ahead : Nat} {a_cost : Nat} {a_may : Nat} {a_rest : Nat} {a_way : Nat} {v5 : Int32} {v6 : Int32} {v7 : Int32} {c_n : Int32} {c_rain : Int32} {c_ear : Int32} {c_many : Int32} {c_seed : Int32} {c_taped : Int32} {c_from : Int32} {c_to : Int32} {c_token : Int32} {c_value : Int32} {c_imaged : Int32} {c_gravel : (Nat → Int32)} {c_kind : (Nat → Int32)} {c_own : (Nat → Int32)} {c_likely : (Nat → Int32)} {c_holding : (Nat → Int32)} {c_rowLength : (Nat → Int32)} {c_rowOf : (Nat → Int64)} {c_refusals : (Nat → Int32)} {x : Int32} (h : f_R_who_l116 v5 c_many c_likely v6 v7 = some x)
    (k0 : kW p l e rm_R_who s m args below meth c D A 8 (cells_R_who cI cL cZ a_this a_gravel a_kind a_own a_likely a_tape a_holding a_rowLength a_rowOf a_refusals a_old a_ahead a_cost a_may a_rest a_way c_n c_rain c_ear c_many c_seed c_taped c_from c_to c_token c_value c_imaged c_gravel c_kind c_own c_likely c_holding c_rowLength c_rowOf c_refusals) [(0, .ref a_this), (5, .int v5), (6, .int x)] Q 154 []) :
    kW p l e rm_R_who s m args below meth c D A 8 (cells_R_who cI cL cZ a_this a_gravel a_kind a_own a_likely a_tape a_holding a_rowLength a_rowOf a_refusals a_old a_ahead a_cost a_may a_rest a_way c_n c_rain c_ear c_many c_seed c_taped c_from c_to c_token c_value c_imaged c_gravel c_kind c_own c_likely c_holding c_rowLength c_rowOf c_refusals) [(0, .ref a_this), (5, .int v5), (6, .int v6), (7, .int v7)] Q 116 [] := by
  unfold f_R_who_l116 at h
  exact iter_W (body := fun s => f_R_who_b116 v5 c_many c_likely s.1 s.2) (r := x) (T := fun sg => kW p l e rm_R_who s m args below meth c D A 8 (cells_R_who cI cL cZ a_this a_gravel a_kind a_own a_likely a_tape a_holding a_rowLength a_rowOf a_refusals a_old a_ahead a_cost a_may a_rest a_way c_n c_rain c_ear c_many c_seed c_taped c_from c_to c_token c_value c_imaged c_gravel c_kind c_own c_likely c_holding c_rowLength c_rowOf c_refusals) [(0, .ref a_this), (5, .int v5), (6, .int sg.1), (7, .int sg.2)] Q 116 []) (fun sg y hy hc _ hr => s_R_who_b116 C (v5 := v5) (v6 := sg.1) (v7 := sg.2) (c_n := c_n) (c_rain := c_rain) (c_ear := c_ear) (c_many := c_many) (c_seed := c_seed) (c_taped := c_taped) (c_from := c_from) (c_to := c_to) (c_token := c_token) (c_value := c_value) (c_imaged := c_imaged) (c_gravel := c_gravel) (c_kind := c_kind) (c_own := c_own) (c_likely := c_likely) (c_holding := c_holding) (c_rowLength := c_rowLength) (c_rowOf := c_rowOf) (c_refusals := c_refusals) (x := y) hy hc (fun r e => by rw [hr r e]; exact k0)) FUEL (v6, v7) h
set_option maxRecDepth 100000 in
set_option maxHeartbeats 4000000 in
theorem s_R_who (C : kC p l e rm_R_who s m args below meth c D (tyG cI cL cZ) A 8 cX5_who yX5_who.cls (Cond.code yX5_who cX5_who 8 (some .int) :: WS) (some .int)) {a_this : Nat} {a_gravel : Nat} {a_kind : Nat} {a_own : Nat} {a_likely : Nat} {a_tape : Nat} {a_holding : Nat} {a_rowLength : Nat} {a_rowOf : Nat} {a_refusals : Nat} {a_old : Nat} {a_ahead : Nat} {a_cost : Nat} {a_may : Nat} {a_rest : Nat} {a_way : Nat} {v1 : Int32} {v2 : Int32} {v3 : Int32} {c_n : Int32} {c_rain : Int32} {c_ear : Int32} {c_many : Int32} {c_seed : Int32} {c_taped : Int32} {c_from : Int32} {c_to : Int32} {c_token : Int32} {c_value : Int32} {c_imaged : Int32} {c_gravel : (Nat → Int32)} {c_kind : (Nat → Int32)} {c_own : (Nat → Int32)} {c_likely : (Nat → Int32)} {c_holding : (Nat → Int32)} {c_rowLength : (Nat → Int32)} {c_rowOf : (Nat → Int64)} {c_refusals : (Nat → Int32)} {x : (Int32 × (Nat → Int32))} (h : f_R_who v1 v2 v3 c_n c_rain c_many c_gravel c_kind c_own c_likely c_holding c_rowLength c_rowOf c_refusals = some x) :
    kW p l e rm_R_who s m args below meth c D A 8 (cells_R_who cI cL cZ a_this a_gravel a_kind a_own a_likely a_tape a_holding a_rowLength a_rowOf a_refusals a_old a_ahead a_cost a_may a_rest a_way c_n c_rain c_ear c_many c_seed c_taped c_from c_to c_token c_value c_imaged c_gravel c_kind c_own c_likely c_holding c_rowLength c_rowOf c_refusals) [(0, .ref a_this), (1, .int v1), (2, .int v2), (3, .int v3)] (MQ below (kQi D A (cells_R_who cI cL cZ a_this a_gravel a_kind a_own a_likely a_tape a_holding a_rowLength a_rowOf a_refusals a_old a_ahead a_cost a_may a_rest a_way c_n c_rain c_ear c_many c_seed c_taped c_from c_to c_token c_value c_imaged c_gravel c_kind c_own c_likely c_holding c_rowLength c_rowOf x.2) x.1) args s 0 0 A) 0 [] := by
  unfold f_R_who at h
  refine k_iload_n C dX5_who_0 1 rfl rfl ?_
  obtain ⟨x1, hx1, h⟩ := bindE h
  refine kcallE_i C (r := x1) (fun H locs ls hP hD hS hF hz => krunS C (c_R_isShelf l D cI cL cZ H.size v1 x1 hx1) (va_cwS 1 C.2.2.2.2.1 (gS wq_555 wq_556 wq_551 wq_554) rfl rfl rfl (by decide +kernel) ⟨(Nat.le_of_ble_eq_true rfl), (Nat.le_of_ble_eq_true rfl)⟩) kEnv_T rfl rfl (Nat.le_of_ble_eq_true rfl) dX5_who_1 hP hD hz) ?_
  refine k_if_eq C (tgt := 24) dX5_who_4 (by decide) (fun c_4 => ?_) (fun c_4 => ?_)
  · have h := ifT c_4 h
    refine k_lv (lv' := [(0, .ref a_this)]) [0] rfl ?_
    exact s_R_who_j24 C h
  · have h := ifF c_4 h
    refine k_aload_n C dX5_who_7 0 rfl rfl ?_
    refine k_iload_n C dX5_who_8 2 rfl rfl ?_
    obtain ⟨x3, hx3, h⟩ := bindE h
    refine kcallR_i C (wc := (cells_R_isColumn cI cL cZ a_this a_gravel a_kind a_own a_likely a_tape a_holding a_rowLength a_rowOf a_refusals a_old a_ahead a_cost a_may a_rest a_way c_n c_rain c_ear c_many c_seed c_taped c_from c_to c_token c_value c_imaged)) (r := x3) [0] (fun H locs ls hP hD hS hF hz => krunV C (q0 := 0) (ci := 5) (c_R_isColumn l D cI cL cZ H.size a_this a_gravel a_kind a_own a_likely a_tape a_holding a_rowLength a_rowOf a_refusals a_old a_ahead a_cost a_may a_rest a_way v2 c_n c_rain c_ear c_many c_seed c_taped c_from c_to c_token c_value c_imaged x3 hx3) (cwV 1 C.2.2.2.2.1 (gV wq_728 wq_729 wq_730 wq_551 wq_727) rfl rfl rfl (by decide +kernel) ⟨(Nat.le_of_ble_eq_true rfl), (Nat.le_of_ble_eq_true rfl)⟩) rfl rfl kEnv_T rfl rfl (Nat.le_of_ble_eq_true rfl) dX5_who_9 hP hD hz) rfl (by decide) ?_
    refine k_if_eq C (tgt := 24) dX5_who_12 (by decide) (fun c_12 => ?_) (fun c_12 => ?_)
    · have h := ifT c_12 h
      refine k_lv (lv' := [(0, .ref a_this)]) [0] rfl ?_
      exact s_R_who_j24 C h
    · have h := ifF c_12 h
      refine k_iload_n C dX5_who_15 3 rfl rfl ?_
      refine k_iconst C (v := (0 : Int32)) dX5_who_16 (by decide) ?_
      refine k_iconst C (v := (3 : Int32)) dX5_who_17 (by decide) ?_
      obtain ⟨x4, hx4, h⟩ := bindE h
      refine kcallE_i C (r := x4) (fun H locs ls hP hD hS hF hz => krunS C (c_R_within l D cI cL cZ H.size v3 (0 : Int32) (3 : Int32) x4 hx4) (va_cwS 3 C.2.2.2.2.1 (gS wq_549 wq_550 wq_551 wq_548) rfl rfl rfl (by decide +kernel) ⟨(Nat.le_of_ble_eq_true rfl), (Nat.le_of_ble_eq_true rfl)⟩) kEnv_T rfl rfl (Nat.le_of_ble_eq_true rfl) dX5_who_18 hP hD hz) ?_
      refine k_if_ne C (tgt := 31) dX5_who_21 (by decide) (fun c_21 => ?_) (fun c_21 => ?_)
      · have h := ifF c_21 h
        refine k_aload_n C dX5_who_31 0 rfl rfl ?_
        refine k_iload_n C dX5_who_32 1 rfl rfl ?_
        obtain ⟨x5, hx5, h⟩ := bindE h
        refine kcallR_i C (wc := (cells_R_noHeard cI cL cZ a_this a_gravel a_kind a_own a_likely a_tape a_holding a_rowLength a_rowOf a_refusals a_old a_ahead a_cost a_may a_rest a_way c_n c_rain c_ear c_many c_seed c_taped c_from c_to c_token c_value c_imaged c_holding c_rowLength)) (r := x5) [0, 5, 6] (fun H locs ls hP hD hS hF hz => krunV C (q0 := 0) (ci := 5) (c_R_noHeard l D cI cL cZ H.size a_this a_gravel a_kind a_own a_likely a_tape a_holding a_rowLength a_rowOf a_refusals a_old a_ahead a_cost a_may a_rest a_way v1 c_n c_rain c_ear c_many c_seed c_taped c_from c_to c_token c_value c_imaged c_holding c_rowLength x5 hx5) (cwV 1 C.2.2.2.2.1 (gV wq_752 wq_753 wq_754 wq_551 wq_751) rfl rfl rfl (by decide +kernel) ⟨(Nat.le_of_ble_eq_true rfl), (Nat.le_of_ble_eq_true rfl)⟩) rfl rfl kEnv_T rfl rfl (Nat.le_of_ble_eq_true rfl) dX5_who_33 hP hD hz) rfl (by decide) ?_
        refine k_istore C (lv' := [(4, .int x5), (0, .ref a_this), (1, .int v1), (2, .int v2), (3, .int v3)]) dX5_who_36 (by decide) rfl ?_
        refine k_iload C dX5_who_38 0 rfl ?_
        refine k_if_ge C (tgt := 50) dX5_who_40 (by decide) (fun c_40 => ?_) (fun c_40 => ?_)
        · have h := ifT c_40 h
          refine k_aload_n C dX5_who_50 1 rfl rfl ?_
          refine k_iload_n C dX5_who_51 2 rfl rfl ?_
          refine k_iload_n C dX5_who_52 3 rfl rfl ?_
          obtain ⟨x6, hx6, h⟩ := bindE h
          refine kcallR_i C (wc := (cells_R_fitting cI cL cZ a_this a_gravel a_kind a_own a_likely a_tape a_holding a_rowLength a_rowOf a_refusals a_old a_ahead a_cost a_may a_rest a_way c_n c_rain c_ear c_many c_seed c_taped c_from c_to c_token c_value c_imaged c_gravel c_kind c_own c_rowOf)) (r := x6) [0, 1, 2, 3, 7] (fun H locs ls hP hD hS hF hz => krunV C (q0 := 0) (ci := 5) (c_R_fitting l D cI cL cZ H.size a_this a_gravel a_kind a_own a_likely a_tape a_holding a_rowLength a_rowOf a_refusals a_old a_ahead a_cost a_may a_rest a_way v1 v2 c_n c_rain c_ear c_many c_seed c_taped c_from c_to c_token c_value c_imaged c_gravel c_kind c_own c_rowOf x6 hx6) (cwV 2 C.2.2.2.2.1 (gV wq_756 wq_757 wq_758 wq_551 wq_755) rfl rfl rfl (by decide +kernel) ⟨(Nat.le_of_ble_eq_true rfl), (Nat.le_of_ble_eq_true rfl)⟩) rfl rfl kEnv_T rfl rfl (Nat.le_of_ble_eq_true rfl) dX5_who_53 hP hD hz) rfl (by decide) ?_
          refine k_istore C (lv' := [(5, .int x6), (4, .int x5), (0, .ref a_this), (1, .int v1), (2, .int v2), (3, .int v3)]) dX5_who_56 (by decide) rfl ?_
          refine k_iload_n C dX5_who_58 5 rfl rfl ?_
          refine k_if_ne C (tgt := 65) dX5_who_59 (by decide) (fun c_59 => ?_) (fun c_59 => ?_)
          · have h := ifF c_59 h
            refine k_iload_n C dX5_who_65 5 rfl rfl ?_
            refine k_iconst C (v := (1 : Int32)) dX5_who_66 (by decide) ?_
            refine k_icmp_ne C (tgt := 77) dX5_who_67 (by decide) (fun c_67 => ?_) (fun c_67 => ?_)
            · have h := ifF c_67 h
              refine k_iload_n C dX5_who_77 5 rfl rfl ?_
              refine k_iconst C (v := (3 : Int32)) dX5_who_78 (by decide) ?_
              refine k_icmp_ne C (tgt := 98) dX5_who_79 (by decide) (fun c_79 => ?_) (fun c_79 => ?_)
              · have h := ifF c_79 h
                refine k_iload C dX5_who_98 0 rfl ?_
                refine k_if_ne C (tgt := 110) dX5_who_100 (by decide) (fun c_100 => ?_) (fun c_100 => ?_)
                · have h := ifF c_100 h
                  refine k_iconst C (v := (0 : Int32)) dX5_who_110 (by decide) ?_
                  refine k_istore C (lv' := [(6, .int (0 : Int32)), (5, .int x6), (4, .int x5), (0, .ref a_this), (1, .int v1), (2, .int v2), (3, .int v3)]) dX5_who_111 (by decide) rfl ?_
                  refine k_iconst C (v := (0 : Int32)) dX5_who_113 (by decide) ?_
                  refine k_istore C (lv' := [(7, .int (0 : Int32)), (6, .int (0 : Int32)), (5, .int x6), (4, .int x5), (0, .ref a_this), (1, .int v1), (2, .int v2), (3, .int v3)]) dX5_who_114 (by decide) rfl ?_
                  obtain ⟨x8, hx8, h⟩ := bindE h
                  refine k_lv (lv' := [(0, .ref a_this), (5, .int x6), (6, .int (0 : Int32)), (7, .int (0 : Int32))]) [4, 2, 1, 0] rfl ?_
                  refine s_R_who_l116 C hx8 ?_
                  refine k_sipush C (v := (1000 : Int32)) dX5_who_154 (by decide) ?_
                  refine k_aload_n C dX5_who_157 0 rfl rfl ?_
                  refine k_get C (C0 := RX5) (T := TX5) (N := 26) (fun w h => List.mem_cons_of_mem _ (us_R w h)) 0 rfl rfl 7 (by decide) (List.mem_cons_of_mem _ wq_594) rfl rfl dX5_who_158 ?_
                  refine k_aload_n C dX5_who_161 0 rfl rfl ?_
                  refine k_iload C dX5_who_162 1 rfl ?_
                  obtain ⟨x9, hx9, h⟩ := bindE h
                  refine kcallR_i C (wc := (cells_R_likeliest cI cL cZ a_this a_gravel a_kind a_own a_likely a_tape a_holding a_rowLength a_rowOf a_refusals a_old a_ahead a_cost a_may a_rest a_way c_n c_rain c_ear c_many c_seed c_taped c_from c_to c_token c_value c_imaged c_likely)) (r := x9) [0, 4] (fun H locs ls hP hD hS hF hz => krunV C (q0 := 0) (ci := 5) (c_R_likeliest l D cI cL cZ H.size a_this a_gravel a_kind a_own a_likely a_tape a_holding a_rowLength a_rowOf a_refusals a_old a_ahead a_cost a_may a_rest a_way x6 c_n c_rain c_ear c_many c_seed c_taped c_from c_to c_token c_value c_imaged c_likely x9 hx9) (cwV 1 C.2.2.2.2.1 (gV wq_760 wq_761 wq_762 wq_551 wq_759) rfl rfl rfl (by decide +kernel) ⟨(Nat.le_of_ble_eq_true rfl), (Nat.le_of_ble_eq_true rfl)⟩) rfl rfl kEnv_T rfl rfl (Nat.le_of_ble_eq_true rfl) dX5_who_164 hP hD hz) rfl (by decide) ?_
                  obtain ⟨x10, hx10, h⟩ := bindE h
                  refine k_iald C 4 0 rfl rfl hx10 dX5_who_167 ?_
                  refine k_imul C dX5_who_168 ?_
                  refine k_iload C dX5_who_169 2 rfl ?_
                  obtain ⟨x11, hx11, h⟩ := bindE h
                  refine k_idiv C dX5_who_171 hx11 ?_
                  obtain rfl := Option.some.inj h
                  exact kret_i C rfl dX5_who_172
                · have h := ifT c_100 h
                  refine k_aload_n C dX5_who_103 2 rfl rfl ?_
                  refine k_bipush C (v := (-5 : Int32)) dX5_who_104 (by decide) ?_
                  obtain ⟨x12, hx12, h⟩ := bindE h
                  refine kcallU_i C (wc := (cells_R_no cI cL cZ a_this a_gravel a_kind a_own a_likely a_tape a_holding a_rowLength a_rowOf a_refusals a_old a_ahead a_cost a_may a_rest a_way c_n c_rain c_ear c_many c_seed c_taped c_from c_to c_token c_value c_imaged c_refusals)) (w1 := (cells_R_no cI cL cZ a_this a_gravel a_kind a_own a_likely a_tape a_holding a_rowLength a_rowOf a_refusals a_old a_ahead a_cost a_may a_rest a_way c_n c_rain c_ear c_many c_seed c_taped c_from c_to c_token c_value c_imaged x12.2)) (ws' := (cells_R_who cI cL cZ a_this a_gravel a_kind a_own a_likely a_tape a_holding a_rowLength a_rowOf a_refusals a_old a_ahead a_cost a_may a_rest a_way c_n c_rain c_ear c_many c_seed c_taped c_from c_to c_token c_value c_imaged c_gravel c_kind c_own c_likely c_holding c_rowLength c_rowOf x12.2)) (r := x12.1) [0, 8] (fun H locs ls hP hD hS hF hz => krunV C (q0 := 0) (ci := 5) (c_R_no l D cI cL cZ H.size a_this a_gravel a_kind a_own a_likely a_tape a_holding a_rowLength a_rowOf a_refusals a_old a_ahead a_cost a_may a_rest a_way (-5 : Int32) c_n c_rain c_ear c_many c_seed c_taped c_from c_to c_token c_value c_imaged c_refusals x12 hx12) (cwV 1 C.2.2.2.2.1 (gV wq_558 wq_559 wq_560 wq_551 wq_557) rfl rfl rfl (by decide +kernel) ⟨(Nat.le_of_ble_eq_true rfl), (Nat.le_of_ble_eq_true rfl)⟩) rfl rfl kEnv_T rfl rfl (Nat.le_of_ble_eq_true rfl) dX5_who_106 hP hD hz) rfl (by decide) rfl rfl ?_
                  obtain rfl := Option.some.inj h
                  exact kret_i C rfl dX5_who_109
              · have h := ifT c_79 h
                refine k_iload C dX5_who_82 0 rfl ?_
                refine k_if_ne C (tgt := 91) dX5_who_84 (by decide) (fun c_84 => ?_) (fun c_84 => ?_)
                · have h := ifF c_84 h
                  refine k_aload_n C dX5_who_91 2 rfl rfl ?_
                  refine k_iload_n C dX5_who_92 3 rfl rfl ?_
                  refine k_iload_n C dX5_who_93 4 rfl rfl ?_
                  obtain ⟨x13, hx13, h⟩ := bindE h
                  refine kcallR_i C (wc := (cells_R_sure cI cL cZ a_this a_gravel a_kind a_own a_likely a_tape a_holding a_rowLength a_rowOf a_refusals a_old a_ahead a_cost a_may a_rest a_way c_n c_rain c_ear c_many c_seed c_taped c_from c_to c_token c_value c_imaged c_gravel c_kind c_own c_rowOf)) (r := x13) [0, 1, 2, 3, 7] (fun H locs ls hP hD hS hF hz => krunV C (q0 := 0) (ci := 5) (c_R_sure l D cI cL cZ H.size a_this a_gravel a_kind a_own a_likely a_tape a_holding a_rowLength a_rowOf a_refusals a_old a_ahead a_cost a_may a_rest a_way v1 v2 c_n c_rain c_ear c_many c_seed c_taped c_from c_to c_token c_value c_imaged c_gravel c_kind c_own c_rowOf x13 hx13) (cwV 2 C.2.2.2.2.1 (gV wq_764 wq_765 wq_766 wq_551 wq_763) rfl rfl rfl (by decide +kernel) ⟨(Nat.le_of_ble_eq_true rfl), (Nat.le_of_ble_eq_true rfl)⟩) rfl rfl kEnv_T rfl rfl (Nat.le_of_ble_eq_true rfl) dX5_who_94 hP hD hz) rfl (by decide) ?_
                  obtain rfl := Option.some.inj h
                  exact kret_i C rfl dX5_who_97
                · have h := ifT c_84 h
                  refine k_iconst C (v := (-1 : Int32)) dX5_who_87 (by decide) ?_
                  refine k_goto C (tgt := 97) dX5_who_88 (by decide) ?_
                  obtain rfl := Option.some.inj h
                  exact kret_i C rfl dX5_who_97
            · have h := ifT c_67 h
              refine k_aload_n C dX5_who_70 2 rfl rfl ?_
              refine k_iload C dX5_who_71 0 rfl ?_
              obtain ⟨x14, hx14, h⟩ := bindE h
              refine kcallR_i C (wc := (cells_R_likeliest cI cL cZ a_this a_gravel a_kind a_own a_likely a_tape a_holding a_rowLength a_rowOf a_refusals a_old a_ahead a_cost a_may a_rest a_way c_n c_rain c_ear c_many c_seed c_taped c_from c_to c_token c_value c_imaged c_likely)) (r := x14) [0, 4] (fun H locs ls hP hD hS hF hz => krunV C (q0 := 0) (ci := 5) (c_R_likeliest l D cI cL cZ H.size a_this a_gravel a_kind a_own a_likely a_tape a_holding a_rowLength a_rowOf a_refusals a_old a_ahead a_cost a_may a_rest a_way x6 c_n c_rain c_ear c_many c_seed c_taped c_from c_to c_token c_value c_imaged c_likely x14 hx14) (cwV 1 C.2.2.2.2.1 (gV wq_760 wq_761 wq_762 wq_551 wq_759) rfl rfl rfl (by decide +kernel) ⟨(Nat.le_of_ble_eq_true rfl), (Nat.le_of_ble_eq_true rfl)⟩) rfl rfl kEnv_T rfl rfl (Nat.le_of_ble_eq_true rfl) dX5_who_73 hP hD hz) rfl (by decide) ?_
              obtain rfl := Option.some.inj h
              exact kret_i C rfl dX5_who_76
          · have h := ifT c_59 h
            refine k_iload C dX5_who_62 0 rfl ?_
            obtain rfl := Option.some.inj h
            exact kret_i C rfl dX5_who_64
        · have h := ifF c_40 h
          refine k_aload_n C dX5_who_43 1 rfl rfl ?_
          refine k_iload C dX5_who_44 0 rfl ?_
          obtain ⟨x15, hx15, h⟩ := bindE h
          refine kcallU_i C (wc := (cells_R_no cI cL cZ a_this a_gravel a_kind a_own a_likely a_tape a_holding a_rowLength a_rowOf a_refusals a_old a_ahead a_cost a_may a_rest a_way c_n c_rain c_ear c_many c_seed c_taped c_from c_to c_token c_value c_imaged c_refusals)) (w1 := (cells_R_no cI cL cZ a_this a_gravel a_kind a_own a_likely a_tape a_holding a_rowLength a_rowOf a_refusals a_old a_ahead a_cost a_may a_rest a_way c_n c_rain c_ear c_many c_seed c_taped c_from c_to c_token c_value c_imaged x15.2)) (ws' := (cells_R_who cI cL cZ a_this a_gravel a_kind a_own a_likely a_tape a_holding a_rowLength a_rowOf a_refusals a_old a_ahead a_cost a_may a_rest a_way c_n c_rain c_ear c_many c_seed c_taped c_from c_to c_token c_value c_imaged c_gravel c_kind c_own c_likely c_holding c_rowLength c_rowOf x15.2)) (r := x15.1) [0, 8] (fun H locs ls hP hD hS hF hz => krunV C (q0 := 0) (ci := 5) (c_R_no l D cI cL cZ H.size a_this a_gravel a_kind a_own a_likely a_tape a_holding a_rowLength a_rowOf a_refusals a_old a_ahead a_cost a_may a_rest a_way x5 c_n c_rain c_ear c_many c_seed c_taped c_from c_to c_token c_value c_imaged c_refusals x15 hx15) (cwV 1 C.2.2.2.2.1 (gV wq_558 wq_559 wq_560 wq_551 wq_557) rfl rfl rfl (by decide +kernel) ⟨(Nat.le_of_ble_eq_true rfl), (Nat.le_of_ble_eq_true rfl)⟩) rfl rfl kEnv_T rfl rfl (Nat.le_of_ble_eq_true rfl) dX5_who_46 hP hD hz) rfl (by decide) rfl rfl ?_
          obtain rfl := Option.some.inj h
          exact kret_i C rfl dX5_who_49
      · have h := ifT c_21 h
        refine k_lv (lv' := [(0, .ref a_this)]) [0] rfl ?_
        exact s_R_who_j24 C h
theorem c_R_who (l : Launch) (D : va_G) (cI : ClassId) (cL : ClassId) (cZ : ClassId) (sz : Nat) (a_this : Nat) (a_gravel : Nat) (a_kind : Nat) (a_own : Nat) (a_likely : Nat) (a_tape : Nat) (a_holding : Nat) (a_rowLength : Nat) (a_rowOf : Nat) (a_refusals : Nat) (a_old : Nat) (a_ahead : Nat) (a_cost : Nat) (a_may : Nat) (a_rest : Nat) (a_way : Nat) (v1 : Int32) (v2 : Int32) (v3 : Int32) (c_n : Int32) (c_rain : Int32) (c_ear : Int32) (c_many : Int32) (c_seed : Int32) (c_taped : Int32) (c_from : Int32) (c_to : Int32) (c_token : Int32) (c_value : Int32) (c_imaged : Int32) (c_gravel : (Nat → Int32)) (c_kind : (Nat → Int32)) (c_own : (Nat → Int32)) (c_likely : (Nat → Int32)) (c_holding : (Nat → Int32)) (c_rowLength : (Nat → Int32)) (c_rowOf : (Nat → Int64)) (c_refusals : (Nat → Int32)) (x : (Int32 × (Nat → Int32))) (h : f_R_who v1 v2 v3 c_n c_rain c_many c_gravel c_kind c_own c_likely c_holding c_rowLength c_rowOf c_refusals = some x) :
    Met l yX5_who (Cond.code yX5_who cX5_who 8 (some .int) :: WS) rm_R_who (kP D (tyG cI cL cZ) kTrue [.ref a_this, .int v1, .int v2, .int v3] sz (cells_R_who cI cL cZ a_this a_gravel a_kind a_own a_likely a_tape a_holding a_rowLength a_rowOf a_refusals a_old a_ahead a_cost a_may a_rest a_way c_n c_rain c_ear c_many c_seed c_taped c_from c_to c_token c_value c_imaged c_gravel c_kind c_own c_likely c_holding c_rowLength c_rowOf c_refusals)) (kQi D (va_A (cells_R_who cI cL cZ a_this a_gravel a_kind a_own a_likely a_tape a_holding a_rowLength a_rowOf a_refusals a_old a_ahead a_cost a_may a_rest a_way c_n c_rain c_ear c_many c_seed c_taped c_from c_to c_token c_value c_imaged c_gravel c_kind c_own c_likely c_holding c_rowLength c_rowOf c_refusals) sz) (cells_R_who cI cL cZ a_this a_gravel a_kind a_own a_likely a_tape a_holding a_rowLength a_rowOf a_refusals a_old a_ahead a_cost a_may a_rest a_way c_n c_rain c_ear c_many c_seed c_taped c_from c_to c_token c_value c_imaged c_gravel c_kind c_own c_likely c_holding c_rowLength c_rowOf x.2) x.1) 0 0 (va_A (cells_R_who cI cL cZ a_this a_gravel a_kind a_own a_likely a_tape a_holding a_rowLength a_rowOf a_refusals a_old a_ahead a_cost a_may a_rest a_way c_n c_rain c_ear c_many c_seed c_taped c_from c_to c_token c_value c_imaged c_gravel c_kind c_own c_likely c_holding c_rowLength c_rowOf c_refusals) sz) :=
  kmet (by decide) (Nat.le_of_ble_eq_true rfl) rfl (fun p e s m below meth c C hE => s_R_who C h)
abbrev cells_R_apartOn (cI : ClassId) (cL : ClassId) (cZ : ClassId) (a_this : Nat) (a_gravel : Nat) (a_kind : Nat) (a_own : Nat) (a_likely : Nat) (a_tape : Nat) (a_holding : Nat) (a_rowLength : Nat) (a_rowOf : Nat) (a_refusals : Nat) (a_old : Nat) (a_ahead : Nat) (a_cost : Nat) (a_may : Nat) (a_rest : Nat) (a_way : Nat) (c_n : Int32) (c_rain : Int32) (c_ear : Int32) (c_many : Int32) (c_seed : Int32) (c_taped : Int32) (c_from : Int32) (c_to : Int32) (c_token : Int32) (c_value : Int32) (c_imaged : Int32) (c_gravel : (Nat → Int32)) (c_kind : (Nat → Int32)) (c_own : (Nat → Int32)) : va_W := [(a_this, .inr (5, [.int c_n, .ref a_gravel, .int c_rain, .int c_ear, .int c_many, .ref a_kind, .ref a_own, .ref a_likely, .int c_seed, .int c_taped, .ref a_tape, .int c_from, .int c_to, .int c_token, .int c_value, .ref a_holding, .ref a_rowLength, .ref a_rowOf, .ref a_refusals, .int c_imaged, .ref a_old, .ref a_ahead, .ref a_cost, .ref a_may, .ref a_rest, .ref a_way])), (a_gravel, .inl (cI, 36, .inl c_gravel)), (a_kind, .inl (cI, 8, .inl c_kind)), (a_own, .inl (cI, 8, .inl c_own))]
abbrev rm_R_apartOn : Room := { frames := 4, cells := 0, slots := 0, locals := 102 }
set_option maxRecDepth 100000 in
set_option maxHeartbeats 4000000 in
theorem s_R_apartOn_b18 (C : kC p l e rm_R_apartOn s m args below meth c D (tyG cI cL cZ) A 6 cX5_apartOn yX5_apartOn.cls (Cond.code yX5_apartOn cX5_apartOn 6 (some .int) :: WS) (some .int)) {a_this : Nat} {a_gravel : Nat} {a_kind : Nat} {a_own : Nat} {a_likely : Nat} {a_tape : Nat} {a_holding : Nat} {a_rowLength : Nat} {a_rowOf : Nat} {a_refusals : Nat} {a_old : Nat} {a_ahead : Nat} {a_cost : Nat} {a_may : Nat} {a_rest : Nat} {a_way : Nat} {v1 : Int32} {v2 : Int32} {v3 : Int32} {v4 : Int32} {v5 : Int32} {c_n : Int32} {c_rain : Int32} {c_ear : Int32} {c_many : Int32} {c_seed : Int32} {c_taped : Int32} {c_from : Int32} {c_to : Int32} {c_token : Int32} {c_value : Int32} {c_imaged : Int32} {c_gravel : (Nat → Int32)} {c_kind : (Nat → Int32)} {c_own : (Nat → Int32)} {x : ((Int32 × Int32) ⊕ Int32)} (h : f_R_apartOn_b18 v1 v3 c_n c_rain c_many c_gravel c_kind c_own v4 v5 = some x)
    (kc : ∀ s', x = .inl s' → kW p l e rm_R_apartOn s m args below meth c D A 6 (cells_R_apartOn cI cL cZ a_this a_gravel a_kind a_own a_likely a_tape a_holding a_rowLength a_rowOf a_refusals a_old a_ahead a_cost a_may a_rest a_way c_n c_rain c_ear c_many c_seed c_taped c_from c_to c_token c_value c_imaged c_gravel c_kind c_own) [(0, .ref a_this), (1, .int v1), (2, .int v2), (3, .int v3), (4, .int s'.1), (5, .int s'.2)] Q 18 [])
    (k0 : ∀ r, x = .inr r → kW p l e rm_R_apartOn s m args below meth c D A 6 (cells_R_apartOn cI cL cZ a_this a_gravel a_kind a_own a_likely a_tape a_holding a_rowLength a_rowOf a_refusals a_old a_ahead a_cost a_may a_rest a_way c_n c_rain c_ear c_many c_seed c_taped c_from c_to c_token c_value c_imaged c_gravel c_kind c_own) [(0, .ref a_this), (1, .int v1), (2, .int v2), (3, .int v3), (4, .int r)] Q 54 []) :
    kW p l e rm_R_apartOn s m args below meth c D A 6 (cells_R_apartOn cI cL cZ a_this a_gravel a_kind a_own a_likely a_tape a_holding a_rowLength a_rowOf a_refusals a_old a_ahead a_cost a_may a_rest a_way c_n c_rain c_ear c_many c_seed c_taped c_from c_to c_token c_value c_imaged c_gravel c_kind c_own) [(0, .ref a_this), (1, .int v1), (2, .int v2), (3, .int v3), (4, .int v4), (5, .int v5)] Q 18 [] := by
  unfold f_R_apartOn_b18 at h
  refine k_iload C dX5_apartOn_18 5 rfl ?_
  refine k_aload_n C dX5_apartOn_20 0 rfl rfl ?_
  refine k_get C (C0 := RX5) (T := TX5) (N := 26) (fun w h => List.mem_cons_of_mem _ (us_R w h)) 0 rfl rfl 4 (by decide) (List.mem_cons_of_mem _ wq_547) rfl rfl dX5_apartOn_21 ?_
  refine k_icmp_ge C (tgt := 54) dX5_apartOn_24 (by decide) (fun c_24 => ?_) (fun c_24 => ?_)
  · have h := ifT c_24 h
    refine k_lv (lv' := [(0, .ref a_this), (1, .int v1), (2, .int v2), (3, .int v3), (4, .int v4)]) [0, 1, 2, 3, 4] rfl ?_
    exact k0 _ (Option.some.inj h).symm
  · have h := ifF c_24 h
    refine k_iload C dX5_apartOn_27 5 rfl ?_
    refine k_iload_n C dX5_apartOn_29 3 rfl rfl ?_
    refine k_icmp_eq C (tgt := 48) dX5_apartOn_30 (by decide) (fun c_30 => ?_) (fun c_30 => ?_)
    · have h := ifT c_30 h
      refine k_iinc C (v := (v5 + (1 : Int32))) (lv' := [(5, .int (v5 + (1 : Int32))), (0, .ref a_this), (1, .int v1), (2, .int v2), (3, .int v3), (4, .int v4)]) dX5_apartOn_48 5 rfl rfl (by decide) rfl ?_
      refine k_goto C (tgt := 18) dX5_apartOn_51 (by decide) ?_
      refine k_lv (lv' := [(0, .ref a_this), (1, .int v1), (2, .int v2), (3, .int v3), (4, .int v4), (5, .int (v5 + (1 : Int32)))]) [1, 2, 3, 4, 5, 0] rfl ?_
      exact kc _ (Option.some.inj h).symm
    · have h := ifF c_30 h
      refine k_aload_n C dX5_apartOn_33 0 rfl rfl ?_
      refine k_iload_n C dX5_apartOn_34 3 rfl rfl ?_
      refine k_iload C dX5_apartOn_35 5 rfl ?_
      refine k_iload_n C dX5_apartOn_37 1 rfl rfl ?_
      obtain ⟨x1, hx1, h⟩ := bindE h
      refine kcallR_i C (wc := (cells_R_gapOf cI cL cZ a_this a_gravel a_kind a_own a_likely a_tape a_holding a_rowLength a_rowOf a_refusals a_old a_ahead a_cost a_may a_rest a_way c_n c_rain c_ear c_many c_seed c_taped c_from c_to c_token c_value c_imaged c_gravel c_kind c_own)) (r := x1) [0, 1, 2, 3] (fun H locs ls hP hD hS hF hz => krunV C (q0 := 0) (ci := 5) (c_R_gapOf l D cI cL cZ H.size a_this a_gravel a_kind a_own a_likely a_tape a_holding a_rowLength a_rowOf a_refusals a_old a_ahead a_cost a_may a_rest a_way v3 v5 v1 c_n c_rain c_ear c_many c_seed c_taped c_from c_to c_token c_value c_imaged c_gravel c_kind c_own x1 hx1) (cwV 3 C.2.2.2.2.1 (gV wq_732 wq_733 wq_734 wq_551 wq_731) rfl rfl rfl (by decide +kernel) ⟨(Nat.le_of_ble_eq_true rfl), (Nat.le_of_ble_eq_true rfl)⟩) rfl rfl kEnv_T rfl rfl (Nat.le_of_ble_eq_true rfl) dX5_apartOn_38 hP hD hz) rfl (by decide) ?_
      refine k_iconst C (v := (-1 : Int32)) dX5_apartOn_41 (by decide) ?_
      refine k_icmp_ne C (tgt := 48) dX5_apartOn_42 (by decide) (fun c_42 => ?_) (fun c_42 => ?_)
      · have h := ifF c_42 h
        refine k_iinc C (v := (v5 + (1 : Int32))) (lv' := [(5, .int (v5 + (1 : Int32))), (0, .ref a_this), (1, .int v1), (2, .int v2), (3, .int v3), (4, .int v4)]) dX5_apartOn_48 5 rfl rfl (by decide) rfl ?_
        refine k_goto C (tgt := 18) dX5_apartOn_51 (by decide) ?_
        refine k_lv (lv' := [(0, .ref a_this), (1, .int v1), (2, .int v2), (3, .int v3), (4, .int v4), (5, .int (v5 + (1 : Int32)))]) [1, 2, 3, 4, 5, 0] rfl ?_
        exact kc _ (Option.some.inj h).symm
      · have h := ifT c_42 h
        refine k_iconst C (v := (0 : Int32)) dX5_apartOn_45 (by decide) ?_
        refine k_istore C (lv' := [(4, .int (0 : Int32)), (0, .ref a_this), (1, .int v1), (2, .int v2), (3, .int v3), (5, .int v5)]) dX5_apartOn_46 (by decide) rfl ?_
        refine k_iinc C (v := (v5 + (1 : Int32))) (lv' := [(5, .int (v5 + (1 : Int32))), (4, .int (0 : Int32)), (0, .ref a_this), (1, .int v1), (2, .int v2), (3, .int v3)]) dX5_apartOn_48 5 rfl rfl (by decide) rfl ?_
        refine k_goto C (tgt := 18) dX5_apartOn_51 (by decide) ?_
        refine k_lv (lv' := [(0, .ref a_this), (1, .int v1), (2, .int v2), (3, .int v3), (4, .int (0 : Int32)), (5, .int (v5 + (1 : Int32)))]) [2, 3, 4, 5, 1, 0] rfl ?_
        exact kc _ (Option.some.inj h).symm
set_option maxRecDepth 100000 in
set_option maxHeartbeats 4000000 in
theorem s_R_apartOn_l18 (C : kC p l e rm_R_apartOn s m args below meth c D (tyG cI cL cZ) A 6 cX5_apartOn yX5_apartOn.cls (Cond.code yX5_apartOn cX5_apartOn 6 (some .int) :: WS) (some .int)) {a_this : Nat} {a_gravel : Nat} {a_kind : Nat} {a_own : Nat} {a_likely : Nat} {a_tape : Nat} {a_holding : Nat} {a_rowLength : Nat} {a_rowOf : Nat} {a_refusals : Nat} {a_old : Nat} {a_ahead : Nat} {a_cost : Nat} {a_may : Nat} {a_rest : Nat} {a_way : Nat} {v1 : Int32} {v2 : Int32} {v3 : Int32} {v4 : Int32} {v5 : Int32} {c_n : Int32} {c_rain : Int32} {c_ear : Int32} {c_many : Int32} {c_seed : Int32} {c_taped : Int32} {c_from : Int32} {c_to : Int32} {c_token : Int32} {c_value : Int32} {c_imaged : Int32} {c_gravel : (Nat → Int32)} {c_kind : (Nat → Int32)} {c_own : (Nat → Int32)} {x : Int32} (h : f_R_apartOn_l18 v1 v3 c_n c_rain c_many c_gravel c_kind c_own v4 v5 = some x)
    (k0 : kW p l e rm_R_apartOn s m args below meth c D A 6 (cells_R_apartOn cI cL cZ a_this a_gravel a_kind a_own a_likely a_tape a_holding a_rowLength a_rowOf a_refusals a_old a_ahead a_cost a_may a_rest a_way c_n c_rain c_ear c_many c_seed c_taped c_from c_to c_token c_value c_imaged c_gravel c_kind c_own) [(0, .ref a_this), (1, .int v1), (2, .int v2), (3, .int v3), (4, .int x)] Q 54 []) :
    kW p l e rm_R_apartOn s m args below meth c D A 6 (cells_R_apartOn cI cL cZ a_this a_gravel a_kind a_own a_likely a_tape a_holding a_rowLength a_rowOf a_refusals a_old a_ahead a_cost a_may a_rest a_way c_n c_rain c_ear c_many c_seed c_taped c_from c_to c_token c_value c_imaged c_gravel c_kind c_own) [(0, .ref a_this), (1, .int v1), (2, .int v2), (3, .int v3), (4, .int v4), (5, .int v5)] Q 18 [] := by
  unfold f_R_apartOn_l18 at h
  exact iter_W (body := fun s => f_R_apartOn_b18 v1 v3 c_n c_rain c_many c_gravel c_kind c_own s.1 s.2) (r := x) (T := fun sg => kW p l e rm_R_apartOn s m args below meth c D A 6 (cells_R_apartOn cI cL cZ a_this a_gravel a_kind a_own a_likely a_tape a_holding a_rowLength a_rowOf a_refusals a_old a_ahead a_cost a_may a_rest a_way c_n c_rain c_ear c_many c_seed c_taped c_from c_to c_token c_value c_imaged c_gravel c_kind c_own) [(0, .ref a_this), (1, .int v1), (2, .int v2), (3, .int v3), (4, .int sg.1), (5, .int sg.2)] Q 18 []) (fun sg y hy hc _ hr => s_R_apartOn_b18 C (v1 := v1) (v2 := v2) (v3 := v3) (v4 := sg.1) (v5 := sg.2) (c_n := c_n) (c_rain := c_rain) (c_ear := c_ear) (c_many := c_many) (c_seed := c_seed) (c_taped := c_taped) (c_from := c_from) (c_to := c_to) (c_token := c_token) (c_value := c_value) (c_imaged := c_imaged) (c_gravel := c_gravel) (c_kind := c_kind) (c_own := c_own) (x := y) hy hc (fun r e => by rw [hr r e]; exact k0)) FUEL (v4, v5) h
set_option maxRecDepth 100000 in
set_option maxHeartbeats 4000000 in
theorem s_R_apartOn_b4 (C : kC p l e rm_R_apartOn s m args below meth c D (tyG cI cL cZ) A 6 cX5_apartOn yX5_apartOn.cls (Cond.code yX5_apartOn cX5_apartOn 6 (some .int) :: WS) (some .int)) {a_this : Nat} {a_gravel : Nat} {a_kind : Nat} {a_own : Nat} {a_likely : Nat} {a_tape : Nat} {a_holding : Nat} {a_rowLength : Nat} {a_rowOf : Nat} {a_refusals : Nat} {a_old : Nat} {a_ahead : Nat} {a_cost : Nat} {a_may : Nat} {a_rest : Nat} {a_way : Nat} {v1 : Int32} {v2 : Int32} {v3 : Int32} {c_n : Int32} {c_rain : Int32} {c_ear : Int32} {c_many : Int32} {c_seed : Int32} {c_taped : Int32} {c_from : Int32} {c_to : Int32} {c_token : Int32} {c_value : Int32} {c_imaged : Int32} {c_gravel : (Nat → Int32)} {c_kind : (Nat → Int32)} {c_own : (Nat → Int32)} {x : ((Int32 × Int32) ⊕ Int32)} (h : f_R_apartOn_b4 v1 c_n c_rain c_many c_gravel c_kind c_own v2 v3 = some x)
    (kc : ∀ s', x = .inl s' → kW p l e rm_R_apartOn s m args below meth c D A 6 (cells_R_apartOn cI cL cZ a_this a_gravel a_kind a_own a_likely a_tape a_holding a_rowLength a_rowOf a_refusals a_old a_ahead a_cost a_may a_rest a_way c_n c_rain c_ear c_many c_seed c_taped c_from c_to c_token c_value c_imaged c_gravel c_kind c_own) [(0, .ref a_this), (1, .int v1), (2, .int s'.1), (3, .int s'.2)] Q 4 [])
    (k0 : ∀ r, x = .inr r → kW p l e rm_R_apartOn s m args below meth c D A 6 (cells_R_apartOn cI cL cZ a_this a_gravel a_kind a_own a_likely a_tape a_holding a_rowLength a_rowOf a_refusals a_old a_ahead a_cost a_may a_rest a_way c_n c_rain c_ear c_many c_seed c_taped c_from c_to c_token c_value c_imaged c_gravel c_kind c_own) [(2, .int r)] Q 68 []) :
    kW p l e rm_R_apartOn s m args below meth c D A 6 (cells_R_apartOn cI cL cZ a_this a_gravel a_kind a_own a_likely a_tape a_holding a_rowLength a_rowOf a_refusals a_old a_ahead a_cost a_may a_rest a_way c_n c_rain c_ear c_many c_seed c_taped c_from c_to c_token c_value c_imaged c_gravel c_kind c_own) [(0, .ref a_this), (1, .int v1), (2, .int v2), (3, .int v3)] Q 4 [] := by
  unfold f_R_apartOn_b4 at h
  refine k_iload_n C dX5_apartOn_4 3 rfl rfl ?_
  refine k_aload_n C dX5_apartOn_5 0 rfl rfl ?_
  refine k_get C (C0 := RX5) (T := TX5) (N := 26) (fun w h => List.mem_cons_of_mem _ (us_R w h)) 0 rfl rfl 4 (by decide) (List.mem_cons_of_mem _ wq_547) rfl rfl dX5_apartOn_6 ?_
  refine k_icmp_ge C (tgt := 68) dX5_apartOn_9 (by decide) (fun c_9 => ?_) (fun c_9 => ?_)
  · have h := ifT c_9 h
    refine k_lv (lv' := [(2, .int v2)]) [2] rfl ?_
    exact k0 _ (Option.some.inj h).symm
  · have h := ifF c_9 h
    refine k_iconst C (v := (1 : Int32)) dX5_apartOn_12 (by decide) ?_
    refine k_istore C (lv' := [(4, .int (1 : Int32)), (0, .ref a_this), (1, .int v1), (2, .int v2), (3, .int v3)]) dX5_apartOn_13 (by decide) rfl ?_
    refine k_iconst C (v := (0 : Int32)) dX5_apartOn_15 (by decide) ?_
    refine k_istore C (lv' := [(5, .int (0 : Int32)), (4, .int (1 : Int32)), (0, .ref a_this), (1, .int v1), (2, .int v2), (3, .int v3)]) dX5_apartOn_16 (by decide) rfl ?_
    obtain ⟨x2, hx2, h⟩ := bindE h
    refine k_lv (lv' := [(0, .ref a_this), (1, .int v1), (2, .int v2), (3, .int v3), (4, .int (1 : Int32)), (5, .int (0 : Int32))]) [2, 3, 4, 5, 1, 0] rfl ?_
    refine s_R_apartOn_l18 C hx2 ?_
    refine k_iload C dX5_apartOn_54 4 rfl ?_
    refine k_if_eq C (tgt := 62) dX5_apartOn_56 (by decide) (fun c_56 => ?_) (fun c_56 => ?_)
    · have h := ifT c_56 h
      refine k_iinc C (v := (v3 + (1 : Int32))) (lv' := [(3, .int (v3 + (1 : Int32))), (0, .ref a_this), (1, .int v1), (2, .int v2), (4, .int x2)]) dX5_apartOn_62 3 rfl rfl (by decide) rfl ?_
      refine k_goto C (tgt := 4) dX5_apartOn_65 (by decide) ?_
      refine k_lv (lv' := [(0, .ref a_this), (1, .int v1), (2, .int v2), (3, .int (v3 + (1 : Int32)))]) [1, 2, 3, 0] rfl ?_
      exact kc _ (Option.some.inj h).symm
    · have h := ifF c_56 h
      refine k_iinc C (v := (v2 + (1 : Int32))) (lv' := [(2, .int (v2 + (1 : Int32))), (0, .ref a_this), (1, .int v1), (3, .int v3), (4, .int x2)]) dX5_apartOn_59 2 rfl rfl (by decide) rfl ?_
      refine k_iinc C (v := (v3 + (1 : Int32))) (lv' := [(3, .int (v3 + (1 : Int32))), (2, .int (v2 + (1 : Int32))), (0, .ref a_this), (1, .int v1), (4, .int x2)]) dX5_apartOn_62 3 rfl rfl (by decide) rfl ?_
      refine k_goto C (tgt := 4) dX5_apartOn_65 (by decide) ?_
      refine k_lv (lv' := [(0, .ref a_this), (1, .int v1), (2, .int (v2 + (1 : Int32))), (3, .int (v3 + (1 : Int32)))]) [2, 3, 1, 0] rfl ?_
      exact kc _ (Option.some.inj h).symm
set_option maxRecDepth 100000 in
set_option maxHeartbeats 4000000 in
theorem s_R_apartOn_l4 (C : kC p l e rm_R_apartOn s m args below meth c D (tyG cI cL cZ) A 6 cX5_apartOn yX5_apartOn.cls (Cond.code yX5_apartOn cX5_apartOn 6 (some .int) :: WS) (some .int)) {a_this : Nat} {a_gravel : Nat} {a_kind : Nat} {a_own : Nat} {a_likely : Nat} {a_tape : Nat} {a_holding : Nat} {a_rowLength : Nat} {a_rowOf : Nat} {a_refusals : Nat} {a_old : Nat} {a_ahead : Nat} {a_cost : Nat} {a_may : Nat} {a_rest : Nat} {a_way : Nat} {v1 : Int32} {v2 : Int32} {v3 : Int32} {c_n : Int32} {c_rain : Int32} {c_ear : Int32} {c_many : Int32} {c_seed : Int32} {c_taped : Int32} {c_from : Int32} {c_to : Int32} {c_token : Int32} {c_value : Int32} {c_imaged : Int32} {c_gravel : (Nat → Int32)} {c_kind : (Nat → Int32)} {c_own : (Nat → Int32)} {x : Int32} (h : f_R_apartOn_l4 v1 c_n c_rain c_many c_gravel c_kind c_own v2 v3 = some x)
    (k0 : kW p l e rm_R_apartOn s m args below meth c D A 6 (cells_R_apartOn cI cL cZ a_this a_gravel a_kind a_own a_likely a_tape a_holding a_rowLength a_rowOf a_refusals a_old a_ahead a_cost a_may a_rest a_way c_n c_rain c_ear c_many c_seed c_taped c_from c_to c_token c_value c_imaged c_gravel c_kind c_own) [(2, .int x)] Q 68 []) :
    kW p l e rm_R_apartOn s m args below meth c D A 6 (cells_R_apartOn cI cL cZ a_this a_gravel a_kind a_own a_likely a_tape a_holding a_rowLength a_rowOf a_refusals a_old a_ahead a_cost a_may a_rest a_way c_n c_rain c_ear c_many c_seed c_taped c_from c_to c_token c_value c_imaged c_gravel c_kind c_own) [(0, .ref a_this), (1, .int v1), (2, .int v2), (3, .int v3)] Q 4 [] := by
  unfold f_R_apartOn_l4 at h
  exact iter_W (body := fun s => f_R_apartOn_b4 v1 c_n c_rain c_many c_gravel c_kind c_own s.1 s.2) (r := x) (T := fun sg => kW p l e rm_R_apartOn s m args below meth c D A 6 (cells_R_apartOn cI cL cZ a_this a_gravel a_kind a_own a_likely a_tape a_holding a_rowLength a_rowOf a_refusals a_old a_ahead a_cost a_may a_rest a_way c_n c_rain c_ear c_many c_seed c_taped c_from c_to c_token c_value c_imaged c_gravel c_kind c_own) [(0, .ref a_this), (1, .int v1), (2, .int sg.1), (3, .int sg.2)] Q 4 []) (fun sg y hy hc _ hr => s_R_apartOn_b4 C (v1 := v1) (v2 := sg.1) (v3 := sg.2) (c_n := c_n) (c_rain := c_rain) (c_ear := c_ear) (c_many := c_many) (c_seed := c_seed) (c_taped := c_taped) (c_from := c_from) (c_to := c_to) (c_token := c_token) (c_value := c_value) (c_imaged := c_imaged) (c_gravel := c_gravel) (c_kind := c_kind) (c_own := c_own) (x := y) hy hc (fun r e => by rw [hr r e]; exact k0)) FUEL (v2, v3) h
set_option maxRecDepth 100000 in
set_option maxHeartbeats 4000000 in
theorem s_R_apartOn (C : kC p l e rm_R_apartOn s m args below meth c D (tyG cI cL cZ) A 6 cX5_apartOn yX5_apartOn.cls (Cond.code yX5_apartOn cX5_apartOn 6 (some .int) :: WS) (some .int)) {a_this : Nat} {a_gravel : Nat} {a_kind : Nat} {a_own : Nat} {a_likely : Nat} {a_tape : Nat} {a_holding : Nat} {a_rowLength : Nat} {a_rowOf : Nat} {a_refusals : Nat} {a_old : Nat} {a_ahead : Nat} {a_cost : Nat} {a_may : Nat} {a_rest : Nat} {a_way : Nat} {v1 : Int32} {c_n : Int32} {c_rain : Int32} {c_ear : Int32} {c_many : Int32} {c_seed : Int32} {c_taped : Int32} {c_from : Int32} {c_to : Int32} {c_token : Int32} {c_value : Int32} {c_imaged : Int32} {c_gravel : (Nat → Int32)} {c_kind : (Nat → Int32)} {c_own : (Nat → Int32)} {x : Int32} (h : f_R_apartOn v1 c_n c_rain c_many c_gravel c_kind c_own = some x) :
    kW p l e rm_R_apartOn s m args below meth c D A 6 (cells_R_apartOn cI cL cZ a_this a_gravel a_kind a_own a_likely a_tape a_holding a_rowLength a_rowOf a_refusals a_old a_ahead a_cost a_may a_rest a_way c_n c_rain c_ear c_many c_seed c_taped c_from c_to c_token c_value c_imaged c_gravel c_kind c_own) [(0, .ref a_this), (1, .int v1)] (MQ below (kQi D A (cells_R_apartOn cI cL cZ a_this a_gravel a_kind a_own a_likely a_tape a_holding a_rowLength a_rowOf a_refusals a_old a_ahead a_cost a_may a_rest a_way c_n c_rain c_ear c_many c_seed c_taped c_from c_to c_token c_value c_imaged c_gravel c_kind c_own) x) args s 0 0 A) 0 [] := by
  unfold f_R_apartOn at h
  refine k_iconst C (v := (0 : Int32)) dX5_apartOn_0 (by decide) ?_
  refine k_istore_n C (lv' := [(2, .int (0 : Int32)), (0, .ref a_this), (1, .int v1)]) dX5_apartOn_1 rfl (by decide) rfl ?_
  refine k_iconst C (v := (0 : Int32)) dX5_apartOn_2 (by decide) ?_
  refine k_istore_n C (lv' := [(3, .int (0 : Int32)), (2, .int (0 : Int32)), (0, .ref a_this), (1, .int v1)]) dX5_apartOn_3 rfl (by decide) rfl ?_
  obtain ⟨x3, hx3, h⟩ := bindE h
  refine k_lv (lv' := [(0, .ref a_this), (1, .int v1), (2, .int (0 : Int32)), (3, .int (0 : Int32))]) [2, 3, 1, 0] rfl ?_
  refine s_R_apartOn_l4 C hx3 ?_
  refine k_iload_n C dX5_apartOn_68 0 rfl rfl ?_
  obtain rfl := Option.some.inj h
  exact kret_i C rfl dX5_apartOn_69
theorem c_R_apartOn (l : Launch) (D : va_G) (cI : ClassId) (cL : ClassId) (cZ : ClassId) (sz : Nat) (a_this : Nat) (a_gravel : Nat) (a_kind : Nat) (a_own : Nat) (a_likely : Nat) (a_tape : Nat) (a_holding : Nat) (a_rowLength : Nat) (a_rowOf : Nat) (a_refusals : Nat) (a_old : Nat) (a_ahead : Nat) (a_cost : Nat) (a_may : Nat) (a_rest : Nat) (a_way : Nat) (v1 : Int32) (c_n : Int32) (c_rain : Int32) (c_ear : Int32) (c_many : Int32) (c_seed : Int32) (c_taped : Int32) (c_from : Int32) (c_to : Int32) (c_token : Int32) (c_value : Int32) (c_imaged : Int32) (c_gravel : (Nat → Int32)) (c_kind : (Nat → Int32)) (c_own : (Nat → Int32)) (x : Int32) (h : f_R_apartOn v1 c_n c_rain c_many c_gravel c_kind c_own = some x) :
    Met l yX5_apartOn (Cond.code yX5_apartOn cX5_apartOn 6 (some .int) :: WS) rm_R_apartOn (kP D (tyG cI cL cZ) kTrue [.ref a_this, .int v1] sz (cells_R_apartOn cI cL cZ a_this a_gravel a_kind a_own a_likely a_tape a_holding a_rowLength a_rowOf a_refusals a_old a_ahead a_cost a_may a_rest a_way c_n c_rain c_ear c_many c_seed c_taped c_from c_to c_token c_value c_imaged c_gravel c_kind c_own)) (kQi D (va_A (cells_R_apartOn cI cL cZ a_this a_gravel a_kind a_own a_likely a_tape a_holding a_rowLength a_rowOf a_refusals a_old a_ahead a_cost a_may a_rest a_way c_n c_rain c_ear c_many c_seed c_taped c_from c_to c_token c_value c_imaged c_gravel c_kind c_own) sz) (cells_R_apartOn cI cL cZ a_this a_gravel a_kind a_own a_likely a_tape a_holding a_rowLength a_rowOf a_refusals a_old a_ahead a_cost a_may a_rest a_way c_n c_rain c_ear c_many c_seed c_taped c_from c_to c_token c_value c_imaged c_gravel c_kind c_own) x) 0 0 (va_A (cells_R_apartOn cI cL cZ a_this a_gravel a_kind a_own a_likely a_tape a_holding a_rowLength a_rowOf a_refusals a_old a_ahead a_cost a_may a_rest a_way c_n c_rain c_ear c_many c_seed c_taped c_from c_to c_token c_value c_imaged c_gravel c_kind c_own) sz) :=
  kmet (by decide) (Nat.le_of_ble_eq_true rfl) rfl (fun p e s m below meth c C hE => s_R_apartOn C h)
abbrev cells_R_apart (cI : ClassId) (cL : ClassId) (cZ : ClassId) (a_this : Nat) (a_gravel : Nat) (a_kind : Nat) (a_own : Nat) (a_likely : Nat) (a_tape : Nat) (a_holding : Nat) (a_rowLength : Nat) (a_rowOf : Nat) (a_refusals : Nat) (a_old : Nat) (a_ahead : Nat) (a_cost : Nat) (a_may : Nat) (a_rest : Nat) (a_way : Nat) (c_n : Int32) (c_rain : Int32) (c_ear : Int32) (c_many : Int32) (c_seed : Int32) (c_taped : Int32) (c_from : Int32) (c_to : Int32) (c_token : Int32) (c_value : Int32) (c_imaged : Int32) (c_gravel : (Nat → Int32)) (c_kind : (Nat → Int32)) (c_own : (Nat → Int32)) (c_refusals : (Nat → Int32)) : va_W := [(a_this, .inr (5, [.int c_n, .ref a_gravel, .int c_rain, .int c_ear, .int c_many, .ref a_kind, .ref a_own, .ref a_likely, .int c_seed, .int c_taped, .ref a_tape, .int c_from, .int c_to, .int c_token, .int c_value, .ref a_holding, .ref a_rowLength, .ref a_rowOf, .ref a_refusals, .int c_imaged, .ref a_old, .ref a_ahead, .ref a_cost, .ref a_may, .ref a_rest, .ref a_way])), (a_gravel, .inl (cI, 36, .inl c_gravel)), (a_kind, .inl (cI, 8, .inl c_kind)), (a_own, .inl (cI, 8, .inl c_own)), (a_refusals, .inl (cI, 7, .inl c_refusals))]
abbrev rm_R_apart : Room := { frames := 5, cells := 0, slots := 0, locals := 127 }
set_option maxRecDepth 100000 in
set_option maxHeartbeats 4000000 in
theorem s_R_apart (C : kC p l e rm_R_apart s m args below meth c D (tyG cI cL cZ) A 2 cX5_apart yX5_apart.cls (Cond.code yX5_apart cX5_apart 2 (some .int) :: WS) (some .int)) {a_this : Nat} {a_gravel : Nat} {a_kind : Nat} {a_own : Nat} {a_likely : Nat} {a_tape : Nat} {a_holding : Nat} {a_rowLength : Nat} {a_rowOf : Nat} {a_refusals : Nat} {a_old : Nat} {a_ahead : Nat} {a_cost : Nat} {a_may : Nat} {a_rest : Nat} {a_way : Nat} {v1 : Int32} {c_n : Int32} {c_rain : Int32} {c_ear : Int32} {c_many : Int32} {c_seed : Int32} {c_taped : Int32} {c_from : Int32} {c_to : Int32} {c_token : Int32} {c_value : Int32} {c_imaged : Int32} {c_gravel : (Nat → Int32)} {c_kind : (Nat → Int32)} {c_own : (Nat → Int32)} {c_refusals : (Nat → Int32)} {x : (Int32 × (Nat → Int32))} (h : f_R_apart v1 c_n c_rain c_many c_gravel c_kind c_own c_refusals = some x) :
    kW p l e rm_R_apart s m args below meth c D A 2 (cells_R_apart cI cL cZ a_this a_gravel a_kind a_own a_likely a_tape a_holding a_rowLength a_rowOf a_refusals a_old a_ahead a_cost a_may a_rest a_way c_n c_rain c_ear c_many c_seed c_taped c_from c_to c_token c_value c_imaged c_gravel c_kind c_own c_refusals) [(0, .ref a_this), (1, .int v1)] (MQ below (kQi D A (cells_R_apart cI cL cZ a_this a_gravel a_kind a_own a_likely a_tape a_holding a_rowLength a_rowOf a_refusals a_old a_ahead a_cost a_may a_rest a_way c_n c_rain c_ear c_many c_seed c_taped c_from c_to c_token c_value c_imaged c_gravel c_kind c_own x.2) x.1) args s 0 0 A) 0 [] := by
  unfold f_R_apart at h
  refine k_aload_n C dX5_apart_0 0 rfl rfl ?_
  refine k_iload_n C dX5_apart_1 1 rfl rfl ?_
  obtain ⟨x1, hx1, h⟩ := bindE h
  refine kcallR_i C (wc := (cells_R_isColumn cI cL cZ a_this a_gravel a_kind a_own a_likely a_tape a_holding a_rowLength a_rowOf a_refusals a_old a_ahead a_cost a_may a_rest a_way c_n c_rain c_ear c_many c_seed c_taped c_from c_to c_token c_value c_imaged)) (r := x1) [0] (fun H locs ls hP hD hS hF hz => krunV C (q0 := 0) (ci := 5) (c_R_isColumn l D cI cL cZ H.size a_this a_gravel a_kind a_own a_likely a_tape a_holding a_rowLength a_rowOf a_refusals a_old a_ahead a_cost a_may a_rest a_way v1 c_n c_rain c_ear c_many c_seed c_taped c_from c_to c_token c_value c_imaged x1 hx1) (cwV 1 C.2.2.2.2.1 (gV wq_728 wq_729 wq_730 wq_551 wq_727) rfl rfl rfl (by decide +kernel) ⟨(Nat.le_of_ble_eq_true rfl), (Nat.le_of_ble_eq_true rfl)⟩) rfl rfl kEnv_T rfl rfl (Nat.le_of_ble_eq_true rfl) dX5_apart_2 hP hD hz) rfl (by decide) ?_
  refine k_if_eq C (tgt := 16) dX5_apart_5 (by decide) (fun c_5 => ?_) (fun c_5 => ?_)
  · have h := ifT c_5 h
    refine k_aload_n C dX5_apart_16 0 rfl rfl ?_
    refine k_bipush C (v := (-2 : Int32)) dX5_apart_17 (by decide) ?_
    obtain ⟨x2, hx2, h⟩ := bindE h
    refine kcallU_i C (wc := (cells_R_no cI cL cZ a_this a_gravel a_kind a_own a_likely a_tape a_holding a_rowLength a_rowOf a_refusals a_old a_ahead a_cost a_may a_rest a_way c_n c_rain c_ear c_many c_seed c_taped c_from c_to c_token c_value c_imaged c_refusals)) (w1 := (cells_R_no cI cL cZ a_this a_gravel a_kind a_own a_likely a_tape a_holding a_rowLength a_rowOf a_refusals a_old a_ahead a_cost a_may a_rest a_way c_n c_rain c_ear c_many c_seed c_taped c_from c_to c_token c_value c_imaged x2.2)) (ws' := (cells_R_apart cI cL cZ a_this a_gravel a_kind a_own a_likely a_tape a_holding a_rowLength a_rowOf a_refusals a_old a_ahead a_cost a_may a_rest a_way c_n c_rain c_ear c_many c_seed c_taped c_from c_to c_token c_value c_imaged c_gravel c_kind c_own x2.2)) (r := x2.1) [0, 4] (fun H locs ls hP hD hS hF hz => krunV C (q0 := 0) (ci := 5) (c_R_no l D cI cL cZ H.size a_this a_gravel a_kind a_own a_likely a_tape a_holding a_rowLength a_rowOf a_refusals a_old a_ahead a_cost a_may a_rest a_way (-2 : Int32) c_n c_rain c_ear c_many c_seed c_taped c_from c_to c_token c_value c_imaged c_refusals x2 hx2) (cwV 1 C.2.2.2.2.1 (gV wq_558 wq_559 wq_560 wq_551 wq_557) rfl rfl rfl (by decide +kernel) ⟨(Nat.le_of_ble_eq_true rfl), (Nat.le_of_ble_eq_true rfl)⟩) rfl rfl kEnv_T rfl rfl (Nat.le_of_ble_eq_true rfl) dX5_apart_19 hP hD hz) rfl (by decide) rfl rfl ?_
    obtain rfl := Option.some.inj h
    exact kret_i C rfl dX5_apart_22
  · have h := ifF c_5 h
    refine k_aload_n C dX5_apart_8 0 rfl rfl ?_
    refine k_iload_n C dX5_apart_9 1 rfl rfl ?_
    obtain ⟨x3, hx3, h⟩ := bindE h
    refine kcallR_i C (wc := (cells_R_apartOn cI cL cZ a_this a_gravel a_kind a_own a_likely a_tape a_holding a_rowLength a_rowOf a_refusals a_old a_ahead a_cost a_may a_rest a_way c_n c_rain c_ear c_many c_seed c_taped c_from c_to c_token c_value c_imaged c_gravel c_kind c_own)) (r := x3) [0, 1, 2, 3] (fun H locs ls hP hD hS hF hz => krunV C (q0 := 0) (ci := 5) (c_R_apartOn l D cI cL cZ H.size a_this a_gravel a_kind a_own a_likely a_tape a_holding a_rowLength a_rowOf a_refusals a_old a_ahead a_cost a_may a_rest a_way v1 c_n c_rain c_ear c_many c_seed c_taped c_from c_to c_token c_value c_imaged c_gravel c_kind c_own x3 hx3) (cwV 1 C.2.2.2.2.1 (gV wq_768 wq_769 wq_770 wq_551 wq_767) rfl rfl rfl (by decide +kernel) ⟨(Nat.le_of_ble_eq_true rfl), (Nat.le_of_ble_eq_true rfl)⟩) rfl rfl kEnv_T rfl rfl (Nat.le_of_ble_eq_true rfl) dX5_apart_10 hP hD hz) rfl (by decide) ?_
    refine k_goto C (tgt := 22) dX5_apart_13 (by decide) ?_
    obtain rfl := Option.some.inj h
    exact kret_i C rfl dX5_apart_22
theorem c_R_apart (l : Launch) (D : va_G) (cI : ClassId) (cL : ClassId) (cZ : ClassId) (sz : Nat) (a_this : Nat) (a_gravel : Nat) (a_kind : Nat) (a_own : Nat) (a_likely : Nat) (a_tape : Nat) (a_holding : Nat) (a_rowLength : Nat) (a_rowOf : Nat) (a_refusals : Nat) (a_old : Nat) (a_ahead : Nat) (a_cost : Nat) (a_may : Nat) (a_rest : Nat) (a_way : Nat) (v1 : Int32) (c_n : Int32) (c_rain : Int32) (c_ear : Int32) (c_many : Int32) (c_seed : Int32) (c_taped : Int32) (c_from : Int32) (c_to : Int32) (c_token : Int32) (c_value : Int32) (c_imaged : Int32) (c_gravel : (Nat → Int32)) (c_kind : (Nat → Int32)) (c_own : (Nat → Int32)) (c_refusals : (Nat → Int32)) (x : (Int32 × (Nat → Int32))) (h : f_R_apart v1 c_n c_rain c_many c_gravel c_kind c_own c_refusals = some x) :
    Met l yX5_apart (Cond.code yX5_apart cX5_apart 2 (some .int) :: WS) rm_R_apart (kP D (tyG cI cL cZ) kTrue [.ref a_this, .int v1] sz (cells_R_apart cI cL cZ a_this a_gravel a_kind a_own a_likely a_tape a_holding a_rowLength a_rowOf a_refusals a_old a_ahead a_cost a_may a_rest a_way c_n c_rain c_ear c_many c_seed c_taped c_from c_to c_token c_value c_imaged c_gravel c_kind c_own c_refusals)) (kQi D (va_A (cells_R_apart cI cL cZ a_this a_gravel a_kind a_own a_likely a_tape a_holding a_rowLength a_rowOf a_refusals a_old a_ahead a_cost a_may a_rest a_way c_n c_rain c_ear c_many c_seed c_taped c_from c_to c_token c_value c_imaged c_gravel c_kind c_own c_refusals) sz) (cells_R_apart cI cL cZ a_this a_gravel a_kind a_own a_likely a_tape a_holding a_rowLength a_rowOf a_refusals a_old a_ahead a_cost a_may a_rest a_way c_n c_rain c_ear c_many c_seed c_taped c_from c_to c_token c_value c_imaged c_gravel c_kind c_own x.2) x.1) 0 0 (va_A (cells_R_apart cI cL cZ a_this a_gravel a_kind a_own a_likely a_tape a_holding a_rowLength a_rowOf a_refusals a_old a_ahead a_cost a_may a_rest a_way c_n c_rain c_ear c_many c_seed c_taped c_from c_to c_token c_value c_imaged c_gravel c_kind c_own c_refusals) sz) :=
  kmet (by decide) (Nat.le_of_ble_eq_true rfl) rfl (fun p e s m below meth c C hE => s_R_apart C h)
abbrev cells_R_mostApart (cI : ClassId) (cL : ClassId) (cZ : ClassId) (a_this : Nat) (a_gravel : Nat) (a_kind : Nat) (a_own : Nat) (a_likely : Nat) (a_tape : Nat) (a_holding : Nat) (a_rowLength : Nat) (a_rowOf : Nat) (a_refusals : Nat) (a_old : Nat) (a_ahead : Nat) (a_cost : Nat) (a_may : Nat) (a_rest : Nat) (a_way : Nat) (c_n : Int32) (c_rain : Int32) (c_ear : Int32) (c_many : Int32) (c_seed : Int32) (c_taped : Int32) (c_from : Int32) (c_to : Int32) (c_token : Int32) (c_value : Int32) (c_imaged : Int32) (c_gravel : (Nat → Int32)) (c_kind : (Nat → Int32)) (c_own : (Nat → Int32)) : va_W := [(a_this, .inr (5, [.int c_n, .ref a_gravel, .int c_rain, .int c_ear, .int c_many, .ref a_kind, .ref a_own, .ref a_likely, .int c_seed, .int c_taped, .ref a_tape, .int c_from, .int c_to, .int c_token, .int c_value, .ref a_holding, .ref a_rowLength, .ref a_rowOf, .ref a_refusals, .int c_imaged, .ref a_old, .ref a_ahead, .ref a_cost, .ref a_may, .ref a_rest, .ref a_way])), (a_gravel, .inl (cI, 36, .inl c_gravel)), (a_kind, .inl (cI, 8, .inl c_kind)), (a_own, .inl (cI, 8, .inl c_own))]
abbrev rm_R_mostApart : Room := { frames := 5, cells := 0, slots := 0, locals := 127 }
set_option maxRecDepth 100000 in
set_option maxHeartbeats 4000000 in
theorem s_R_mostApart_b4 (C : kC p l e rm_R_mostApart s m args below meth c D (tyG cI cL cZ) A 3 cX5_mostApart yX5_mostApart.cls (Cond.code yX5_mostApart cX5_mostApart 3 (some .int) :: WS) (some .int)) {a_this : Nat} {a_gravel : Nat} {a_kind : Nat} {a_own : Nat} {a_likely : Nat} {a_tape : Nat} {a_holding : Nat} {a_rowLength : Nat} {a_rowOf : Nat} {a_refusals : Nat} {a_old : Nat} {a_ahead : Nat} {a_cost : Nat} {a_may : Nat} {a_rest : Nat} {a_way : Nat} {v1 : Int32} {v2 : Int32} {c_n : Int32} {c_rain : Int32} {c_ear : Int32} {c_many : Int32} {c_seed : Int32} {c_taped : Int32} {c_from : Int32} {c_to : Int32} {c_token : Int32} {c_value : Int32} {c_imaged : Int32} {c_gravel : (Nat → Int32)} {c_kind : (Nat → Int32)} {c_own : (Nat → Int32)} {x : ((Int32 × Int32) ⊕ Int32)} (h : f_R_mostApart_b4 c_n c_rain c_many c_gravel c_kind c_own v1 v2 = some x)
    (kc : ∀ s', x = .inl s' → kW p l e rm_R_mostApart s m args below meth c D A 3 (cells_R_mostApart cI cL cZ a_this a_gravel a_kind a_own a_likely a_tape a_holding a_rowLength a_rowOf a_refusals a_old a_ahead a_cost a_may a_rest a_way c_n c_rain c_ear c_many c_seed c_taped c_from c_to c_token c_value c_imaged c_gravel c_kind c_own) [(0, .ref a_this), (1, .int s'.1), (2, .int s'.2)] Q 4 [])
    (k0 : ∀ r, x = .inr r → kW p l e rm_R_mostApart s m args below meth c D A 3 (cells_R_mostApart cI cL cZ a_this a_gravel a_kind a_own a_likely a_tape a_holding a_rowLength a_rowOf a_refusals a_old a_ahead a_cost a_may a_rest a_way c_n c_rain c_ear c_many c_seed c_taped c_from c_to c_token c_value c_imaged c_gravel c_kind c_own) [(1, .int r)] Q 33 []) :
    kW p l e rm_R_mostApart s m args below meth c D A 3 (cells_R_mostApart cI cL cZ a_this a_gravel a_kind a_own a_likely a_tape a_holding a_rowLength a_rowOf a_refusals a_old a_ahead a_cost a_may a_rest a_way c_n c_rain c_ear c_many c_seed c_taped c_from c_to c_token c_value c_imaged c_gravel c_kind c_own) [(0, .ref a_this), (1, .int v1), (2, .int v2)] Q 4 [] := by
  unfold f_R_mostApart_b4 at h
  refine k_iload_n C dX5_mostApart_4 2 rfl rfl ?_
  refine k_aload_n C dX5_mostApart_5 0 rfl rfl ?_
  refine k_get C (C0 := RX5) (T := TX5) (N := 26) (fun w h => List.mem_cons_of_mem _ (us_R w h)) 0 rfl rfl 0 (by decide) (List.mem_cons_of_mem _ wq_552) rfl rfl dX5_mostApart_6 ?_
  refine k_icmp_ge C (tgt := 33) dX5_mostApart_9 (by decide) (fun c_9 => ?_) (fun c_9 => ?_)
  · have h := ifT c_9 h
    refine k_lv (lv' := [(1, .int v1)]) [1] rfl ?_
    exact k0 _ (Option.some.inj h).symm
  · have h := ifF c_9 h
    refine k_aload_n C dX5_mostApart_12 0 rfl rfl ?_
    refine k_iload_n C dX5_mostApart_13 2 rfl rfl ?_
    obtain ⟨x1, hx1, h⟩ := bindE h
    refine kcallR_i C (wc := (cells_R_apartOn cI cL cZ a_this a_gravel a_kind a_own a_likely a_tape a_holding a_rowLength a_rowOf a_refusals a_old a_ahead a_cost a_may a_rest a_way c_n c_rain c_ear c_many c_seed c_taped c_from c_to c_token c_value c_imaged c_gravel c_kind c_own)) (r := x1) [0, 1, 2, 3] (fun H locs ls hP hD hS hF hz => krunV C (q0 := 0) (ci := 5) (c_R_apartOn l D cI cL cZ H.size a_this a_gravel a_kind a_own a_likely a_tape a_holding a_rowLength a_rowOf a_refusals a_old a_ahead a_cost a_may a_rest a_way v2 c_n c_rain c_ear c_many c_seed c_taped c_from c_to c_token c_value c_imaged c_gravel c_kind c_own x1 hx1) (cwV 1 C.2.2.2.2.1 (gV wq_768 wq_769 wq_770 wq_551 wq_767) rfl rfl rfl (by decide +kernel) ⟨(Nat.le_of_ble_eq_true rfl), (Nat.le_of_ble_eq_true rfl)⟩) rfl rfl kEnv_T rfl rfl (Nat.le_of_ble_eq_true rfl) dX5_mostApart_14 hP hD hz) rfl (by decide) ?_
    refine k_aload_n C dX5_mostApart_17 0 rfl rfl ?_
    refine k_iload_n C dX5_mostApart_18 1 rfl rfl ?_
    obtain ⟨x2, hx2, h⟩ := bindE h
    refine kcallR_i C (wc := (cells_R_apartOn cI cL cZ a_this a_gravel a_kind a_own a_likely a_tape a_holding a_rowLength a_rowOf a_refusals a_old a_ahead a_cost a_may a_rest a_way c_n c_rain c_ear c_many c_seed c_taped c_from c_to c_token c_value c_imaged c_gravel c_kind c_own)) (r := x2) [0, 1, 2, 3] (fun H locs ls hP hD hS hF hz => krunV C (q0 := 0) (ci := 5) (c_R_apartOn l D cI cL cZ H.size a_this a_gravel a_kind a_own a_likely a_tape a_holding a_rowLength a_rowOf a_refusals a_old a_ahead a_cost a_may a_rest a_way v1 c_n c_rain c_ear c_many c_seed c_taped c_from c_to c_token c_value c_imaged c_gravel c_kind c_own x2 hx2) (cwV 1 C.2.2.2.2.1 (gV wq_768 wq_769 wq_770 wq_551 wq_767) rfl rfl rfl (by decide +kernel) ⟨(Nat.le_of_ble_eq_true rfl), (Nat.le_of_ble_eq_true rfl)⟩) rfl rfl kEnv_T rfl rfl (Nat.le_of_ble_eq_true rfl) dX5_mostApart_19 hP hD hz) rfl (by decide) ?_
    refine k_icmp_le C (tgt := 27) dX5_mostApart_22 (by decide) (fun c_22 => ?_) (fun c_22 => ?_)
    · have h := ifT c_22 h
      refine k_iinc C (v := (v2 + (1 : Int32))) (lv' := [(2, .int (v2 + (1 : Int32))), (0, .ref a_this), (1, .int v1)]) dX5_mostApart_27 2 rfl rfl (by decide) rfl ?_
      refine k_goto C (tgt := 4) dX5_mostApart_30 (by decide) ?_
      refine k_lv (lv' := [(0, .ref a_this), (1, .int v1), (2, .int (v2 + (1 : Int32)))]) [1, 2, 0] rfl ?_
      exact kc _ (Option.some.inj h).symm
    · have h := ifF c_22 h
      refine k_iload_n C dX5_mostApart_25 2 rfl rfl ?_
      refine k_istore_n C (lv' := [(1, .int v2), (0, .ref a_this), (2, .int v2)]) dX5_mostApart_26 rfl (by decide) rfl ?_
      refine k_iinc C (v := (v2 + (1 : Int32))) (lv' := [(2, .int (v2 + (1 : Int32))), (1, .int v2), (0, .ref a_this)]) dX5_mostApart_27 2 rfl rfl (by decide) rfl ?_
      refine k_goto C (tgt := 4) dX5_mostApart_30 (by decide) ?_
      refine k_lv (lv' := [(0, .ref a_this), (1, .int v2), (2, .int (v2 + (1 : Int32)))]) [2, 1, 0] rfl ?_
      exact kc _ (Option.some.inj h).symm
set_option maxRecDepth 100000 in
set_option maxHeartbeats 4000000 in
theorem s_R_mostApart_l4 (C : kC p l e rm_R_mostApart s m args below meth c D (tyG cI cL cZ) A 3 cX5_mostApart yX5_mostApart.cls (Cond.code yX5_mostApart cX5_mostApart 3 (some .int) :: WS) (some .int)) {a_this : Nat} {a_gravel : Nat} {a_kind : Nat} {a_own : Nat} {a_likely : Nat} {a_tape : Nat} {a_holding : Nat} {a_rowLength : Nat} {a_rowOf : Nat} {a_refusals : Nat} {a_old : Nat} {a_ahead : Nat} {a_cost : Nat} {a_may : Nat} {a_rest : Nat} {a_way : Nat} {v1 : Int32} {v2 : Int32} {c_n : Int32} {c_rain : Int32} {c_ear : Int32} {c_many : Int32} {c_seed : Int32} {c_taped : Int32} {c_from : Int32} {c_to : Int32} {c_token : Int32} {c_value : Int32} {c_imaged : Int32} {c_gravel : (Nat → Int32)} {c_kind : (Nat → Int32)} {c_own : (Nat → Int32)} {x : Int32} (h : f_R_mostApart_l4 c_n c_rain c_many c_gravel c_kind c_own v1 v2 = some x)
    (k0 : kW p l e rm_R_mostApart s m args below meth c D A 3 (cells_R_mostApart cI cL cZ a_this a_gravel a_kind a_own a_likely a_tape a_holding a_rowLength a_rowOf a_refusals a_old a_ahead a_cost a_may a_rest a_way c_n c_rain c_ear c_many c_seed c_taped c_from c_to c_token c_value c_imaged c_gravel c_kind c_own) [(1, .int x)] Q 33 []) :
    kW p l e rm_R_mostApart s m args below meth c D A 3 (cells_R_mostApart cI cL cZ a_this a_gravel a_kind a_own a_likely a_tape a_holding a_rowLength a_rowOf a_refusals a_old a_ahead a_cost a_may a_rest a_way c_n c_rain c_ear c_many c_seed c_taped c_from c_to c_token c_value c_imaged c_gravel c_kind c_own) [(0, .ref a_this), (1, .int v1), (2, .int v2)] Q 4 [] := by
  unfold f_R_mostApart_l4 at h
  exact iter_W (body := fun s => f_R_mostApart_b4 c_n c_rain c_many c_gravel c_kind c_own s.1 s.2) (r := x) (T := fun sg => kW p l e rm_R_mostApart s m args below meth c D A 3 (cells_R_mostApart cI cL cZ a_this a_gravel a_kind a_own a_likely a_tape a_holding a_rowLength a_rowOf a_refusals a_old a_ahead a_cost a_may a_rest a_way c_n c_rain c_ear c_many c_seed c_taped c_from c_to c_token c_value c_imaged c_gravel c_kind c_own) [(0, .ref a_this), (1, .int sg.1), (2, .int sg.2)] Q 4 []) (fun sg y hy hc _ hr => s_R_mostApart_b4 C (v1 := sg.1) (v2 := sg.2) (c_n := c_n) (c_rain := c_rain) (c_ear := c_ear) (c_many := c_many) (c_seed := c_seed) (c_taped := c_taped) (c_from := c_from) (c_to := c_to) (c_token := c_token) (c_value := c_value) (c_imaged := c_imaged) (c_gravel := c_gravel) (c_kind := c_kind) (c_own := c_own) (x := y) hy hc (fun r e => by rw [hr r e]; exact k0)) FUEL (v1, v2) h
set_option maxRecDepth 100000 in
set_option maxHeartbeats 4000000 in
theorem s_R_mostApart (C : kC p l e rm_R_mostApart s m args below meth c D (tyG cI cL cZ) A 3 cX5_mostApart yX5_mostApart.cls (Cond.code yX5_mostApart cX5_mostApart 3 (some .int) :: WS) (some .int)) {a_this : Nat} {a_gravel : Nat} {a_kind : Nat} {a_own : Nat} {a_likely : Nat} {a_tape : Nat} {a_holding : Nat} {a_rowLength : Nat} {a_rowOf : Nat} {a_refusals : Nat} {a_old : Nat} {a_ahead : Nat} {a_cost : Nat} {a_may : Nat} {a_rest : Nat} {a_way : Nat} {c_n : Int32} {c_rain : Int32} {c_ear : Int32} {c_many : Int32} {c_seed : Int32} {c_taped : Int32} {c_from : Int32} {c_to : Int32} {c_token : Int32} {c_value : Int32} {c_imaged : Int32} {c_gravel : (Nat → Int32)} {c_kind : (Nat → Int32)} {c_own : (Nat → Int32)} {x : Int32} (h : f_R_mostApart c_n c_rain c_many c_gravel c_kind c_own = some x) :
    kW p l e rm_R_mostApart s m args below meth c D A 3 (cells_R_mostApart cI cL cZ a_this a_gravel a_kind a_own a_likely a_tape a_holding a_rowLength a_rowOf a_refusals a_old a_ahead a_cost a_may a_rest a_way c_n c_rain c_ear c_many c_seed c_taped c_from c_to c_token c_value c_imaged c_gravel c_kind c_own) [(0, .ref a_this)] (MQ below (kQi D A (cells_R_mostApart cI cL cZ a_this a_gravel a_kind a_own a_likely a_tape a_holding a_rowLength a_rowOf a_refusals a_old a_ahead a_cost a_may a_rest a_way c_n c_rain c_ear c_many c_seed c_taped c_from c_to c_token c_value c_imaged c_gravel c_kind c_own) x) args s 0 0 A) 0 [] := by
  unfold f_R_mostApart at h
  refine k_iconst C (v := (0 : Int32)) dX5_mostApart_0 (by decide) ?_
  refine k_istore_n C (lv' := [(1, .int (0 : Int32)), (0, .ref a_this)]) dX5_mostApart_1 rfl (by decide) rfl ?_
  refine k_iconst C (v := (1 : Int32)) dX5_mostApart_2 (by decide) ?_
  refine k_istore_n C (lv' := [(2, .int (1 : Int32)), (1, .int (0 : Int32)), (0, .ref a_this)]) dX5_mostApart_3 rfl (by decide) rfl ?_
  obtain ⟨x3, hx3, h⟩ := bindE h
  refine k_lv (lv' := [(0, .ref a_this), (1, .int (0 : Int32)), (2, .int (1 : Int32))]) [2, 1, 0] rfl ?_
  refine s_R_mostApart_l4 C hx3 ?_
  refine k_iload_n C dX5_mostApart_33 0 rfl rfl ?_
  obtain rfl := Option.some.inj h
  exact kret_i C rfl dX5_mostApart_34
theorem c_R_mostApart (l : Launch) (D : va_G) (cI : ClassId) (cL : ClassId) (cZ : ClassId) (sz : Nat) (a_this : Nat) (a_gravel : Nat) (a_kind : Nat) (a_own : Nat) (a_likely : Nat) (a_tape : Nat) (a_holding : Nat) (a_rowLength : Nat) (a_rowOf : Nat) (a_refusals : Nat) (a_old : Nat) (a_ahead : Nat) (a_cost : Nat) (a_may : Nat) (a_rest : Nat) (a_way : Nat) (c_n : Int32) (c_rain : Int32) (c_ear : Int32) (c_many : Int32) (c_seed : Int32) (c_taped : Int32) (c_from : Int32) (c_to : Int32) (c_token : Int32) (c_value : Int32) (c_imaged : Int32) (c_gravel : (Nat → Int32)) (c_kind : (Nat → Int32)) (c_own : (Nat → Int32)) (x : Int32) (h : f_R_mostApart c_n c_rain c_many c_gravel c_kind c_own = some x) :
    Met l yX5_mostApart (Cond.code yX5_mostApart cX5_mostApart 3 (some .int) :: WS) rm_R_mostApart (kP D (tyG cI cL cZ) kTrue [.ref a_this] sz (cells_R_mostApart cI cL cZ a_this a_gravel a_kind a_own a_likely a_tape a_holding a_rowLength a_rowOf a_refusals a_old a_ahead a_cost a_may a_rest a_way c_n c_rain c_ear c_many c_seed c_taped c_from c_to c_token c_value c_imaged c_gravel c_kind c_own)) (kQi D (va_A (cells_R_mostApart cI cL cZ a_this a_gravel a_kind a_own a_likely a_tape a_holding a_rowLength a_rowOf a_refusals a_old a_ahead a_cost a_may a_rest a_way c_n c_rain c_ear c_many c_seed c_taped c_from c_to c_token c_value c_imaged c_gravel c_kind c_own) sz) (cells_R_mostApart cI cL cZ a_this a_gravel a_kind a_own a_likely a_tape a_holding a_rowLength a_rowOf a_refusals a_old a_ahead a_cost a_may a_rest a_way c_n c_rain c_ear c_many c_seed c_taped c_from c_to c_token c_value c_imaged c_gravel c_kind c_own) x) 0 0 (va_A (cells_R_mostApart cI cL cZ a_this a_gravel a_kind a_own a_likely a_tape a_holding a_rowLength a_rowOf a_refusals a_old a_ahead a_cost a_may a_rest a_way c_n c_rain c_ear c_many c_seed c_taped c_from c_to c_token c_value c_imaged c_gravel c_kind c_own) sz) :=
  kmet (by decide) (Nat.le_of_ble_eq_true rfl) rfl (fun p e s m below meth c C hE => s_R_mostApart C h)
abbrev cells_R_telling (cI : ClassId) (cL : ClassId) (cZ : ClassId) (a_this : Nat) (a_gravel : Nat) (a_kind : Nat) (a_own : Nat) (a_likely : Nat) (a_tape : Nat) (a_holding : Nat) (a_rowLength : Nat) (a_rowOf : Nat) (a_refusals : Nat) (a_old : Nat) (a_ahead : Nat) (a_cost : Nat) (a_may : Nat) (a_rest : Nat) (a_way : Nat) (c_n : Int32) (c_rain : Int32) (c_ear : Int32) (c_many : Int32) (c_seed : Int32) (c_taped : Int32) (c_from : Int32) (c_to : Int32) (c_token : Int32) (c_value : Int32) (c_imaged : Int32) (c_gravel : (Nat → Int32)) (c_kind : (Nat → Int32)) (c_own : (Nat → Int32)) (c_refusals : (Nat → Int32)) : va_W := [(a_this, .inr (5, [.int c_n, .ref a_gravel, .int c_rain, .int c_ear, .int c_many, .ref a_kind, .ref a_own, .ref a_likely, .int c_seed, .int c_taped, .ref a_tape, .int c_from, .int c_to, .int c_token, .int c_value, .ref a_holding, .ref a_rowLength, .ref a_rowOf, .ref a_refusals, .int c_imaged, .ref a_old, .ref a_ahead, .ref a_cost, .ref a_may, .ref a_rest, .ref a_way])), (a_gravel, .inl (cI, 36, .inl c_gravel)), (a_kind, .inl (cI, 8, .inl c_kind)), (a_own, .inl (cI, 8, .inl c_own)), (a_refusals, .inl (cI, 7, .inl c_refusals))]
abbrev rm_R_telling : Room := { frames := 6, cells := 0, slots := 0, locals := 149 }
set_option maxRecDepth 100000 in
set_option maxHeartbeats 4000000 in
theorem s_R_telling_b36 (C : kC p l e rm_R_telling s m args below meth c D (tyG cI cL cZ) A 5 cX5_telling yX5_telling.cls (Cond.code yX5_telling cX5_telling 5 (some .int) :: WS) (some .int)) {a_this : Nat} {a_gravel : Nat} {a_kind : Nat} {a_own : Nat} {a_likely : Nat} {a_tape : Nat} {a_holding : Nat} {a_rowLength : Nat} {a_rowOf : Nat} {a_refusals : Nat} {a_old : Nat} {a_ahead : Nat} {a_cost : Nat} {a_may : Nat} {a_rest : Nat} {a_way : Nat} {v2 : Int32} {v3 : Int32} {v4 : Int32} {c_n : Int32} {c_rain : Int32} {c_ear : Int32} {c_many : Int32} {c_seed : Int32} {c_taped : Int32} {c_from : Int32} {c_to : Int32} {c_token : Int32} {c_value : Int32} {c_imaged : Int32} {c_gravel : (Nat → Int32)} {c_kind : (Nat → Int32)} {c_own : (Nat → Int32)} {c_refusals : (Nat → Int32)} {x : ((Int32 × Int32 × Int32) ⊕ (Int32 × Int32))} (h : f_R_telling_b36 c_n c_many c_gravel c_kind c_own v3 v4 c_rain = some x)
    (kc : ∀ s', x = .inl s' → kW p l e rm_R_telling s m args below meth c D A 5 (cells_R_telling cI cL cZ a_this a_gravel a_kind a_own a_likely a_tape a_holding a_rowLength a_rowOf a_refusals a_old a_ahead a_cost a_may a_rest a_way c_n s'.2.2 c_ear c_many c_seed c_taped c_from c_to c_token c_value c_imaged c_gravel c_kind c_own c_refusals) [(0, .ref a_this), (2, .int v2), (3, .int s'.1), (4, .int s'.2.1)] Q 36 [])
    (k0 : ∀ r, x = .inr r → kW p l e rm_R_telling s m args below meth c D A 5 (cells_R_telling cI cL cZ a_this a_gravel a_kind a_own a_likely a_tape a_holding a_rowLength a_rowOf a_refusals a_old a_ahead a_cost a_may a_rest a_way c_n r.2 c_ear c_many c_seed c_taped c_from c_to c_token c_value c_imaged c_gravel c_kind c_own c_refusals) [(0, .ref a_this), (2, .int v2), (3, .int r.1)] Q 71 []) :
    kW p l e rm_R_telling s m args below meth c D A 5 (cells_R_telling cI cL cZ a_this a_gravel a_kind a_own a_likely a_tape a_holding a_rowLength a_rowOf a_refusals a_old a_ahead a_cost a_may a_rest a_way c_n c_rain c_ear c_many c_seed c_taped c_from c_to c_token c_value c_imaged c_gravel c_kind c_own c_refusals) [(0, .ref a_this), (2, .int v2), (3, .int v3), (4, .int v4)] Q 36 [] := by
  unfold f_R_telling_b36 at h
  refine k_iload C dX5_telling_36 3 rfl ?_
  refine k_if_lt C (tgt := 71) dX5_telling_38 (by decide) (fun c_38 => ?_) (fun c_38 => ?_)
  · have h := ifT c_38 h
    refine k_lv (lv' := [(0, .ref a_this), (2, .int v2), (3, .int v3)]) [0, 1, 2] rfl ?_
    exact k0 _ (Option.some.inj h).symm
  · have h := ifF c_38 h
    refine k_aload_n C dX5_telling_41 0 rfl rfl ?_
    refine k_iload C dX5_telling_42 3 rfl ?_
    refine k_put C (C0 := RX5) (T := TX5) (N := 26) (ws' := (cells_R_telling cI cL cZ a_this a_gravel a_kind a_own a_likely a_tape a_holding a_rowLength a_rowOf a_refusals a_old a_ahead a_cost a_may a_rest a_way c_n v4 c_ear c_many c_seed c_taped c_from c_to c_token c_value c_imaged c_gravel c_kind c_own c_refusals)) (fun w h => List.mem_cons_of_mem _ (us_R w h)) tyX5 tyX5_ok nmX5 0 rfl rfl 2 (by decide) (List.mem_cons_of_mem _ wq_579) rfl rfl (tyX5_ok 2 (by decide)) rfl rfl (Nat.le_of_ble_eq_true rfl) rfl dX5_telling_44 ?_
    refine k_aload_n C dX5_telling_47 0 rfl rfl ?_
    refine k_aload_n C dX5_telling_48 0 rfl rfl ?_
    obtain ⟨x2, hx2, h⟩ := bindE h
    refine kcallR_i C (wc := (cells_R_mostApart cI cL cZ a_this a_gravel a_kind a_own a_likely a_tape a_holding a_rowLength a_rowOf a_refusals a_old a_ahead a_cost a_may a_rest a_way c_n v4 c_ear c_many c_seed c_taped c_from c_to c_token c_value c_imaged c_gravel c_kind c_own)) (r := x2) [0, 1, 2, 3] (fun H locs ls hP hD hS hF hz => krunV C (q0 := 0) (ci := 5) (c_R_mostApart l D cI cL cZ H.size a_this a_gravel a_kind a_own a_likely a_tape a_holding a_rowLength a_rowOf a_refusals a_old a_ahead a_cost a_may a_rest a_way c_n v4 c_ear c_many c_seed c_taped c_from c_to c_token c_value c_imaged c_gravel c_kind c_own x2 hx2) (cwV 0 C.2.2.2.2.1 (gV wq_772 wq_773 wq_774 wq_551 wq_771) rfl rfl rfl (by decide +kernel) ⟨(Nat.le_of_ble_eq_true rfl), (Nat.le_of_ble_eq_true rfl)⟩) rfl rfl kEnv_T rfl rfl (Nat.le_of_ble_eq_true rfl) dX5_telling_49 hP hD hz) rfl (by decide) ?_
    obtain ⟨x3, hx3, h⟩ := bindE h
    refine kcallR_i C (wc := (cells_R_apartOn cI cL cZ a_this a_gravel a_kind a_own a_likely a_tape a_holding a_rowLength a_rowOf a_refusals a_old a_ahead a_cost a_may a_rest a_way c_n v4 c_ear c_many c_seed c_taped c_from c_to c_token c_value c_imaged c_gravel c_kind c_own)) (r := x3) [0, 1, 2, 3] (fun H locs ls hP hD hS hF hz => krunV C (q0 := 0) (ci := 5) (c_R_apartOn l D cI cL cZ H.size a_this a_gravel a_kind a_own a_likely a_tape a_holding a_rowLength a_rowOf a_refusals a_old a_ahead a_cost a_may a_rest a_way x2 c_n v4 c_ear c_many c_seed c_taped c_from c_to c_token c_value c_imaged c_gravel c_kind c_own x3 hx3) (cwV 1 C.2.2.2.2.1 (gV wq_768 wq_769 wq_770 wq_551 wq_767) rfl rfl rfl (by decide +kernel) ⟨(Nat.le_of_ble_eq_true rfl), (Nat.le_of_ble_eq_true rfl)⟩) rfl rfl kEnv_T rfl rfl (Nat.le_of_ble_eq_true rfl) dX5_telling_52 hP hD hz) rfl (by decide) ?_
    refine k_aload_n C dX5_telling_55 0 rfl rfl ?_
    refine k_get C (C0 := RX5) (T := TX5) (N := 26) (fun w h => List.mem_cons_of_mem _ (us_R w h)) 0 rfl rfl 4 (by decide) (List.mem_cons_of_mem _ wq_547) rfl rfl dX5_telling_56 ?_
    refine k_icmp_ne C (tgt := 65) dX5_telling_59 (by decide) (fun c_59 => ?_) (fun c_59 => ?_)
    · have h := ifF c_59 h
      refine k_iinc C (v := (v4 + (-1 : Int32))) (lv' := [(4, .int (v4 + (-1 : Int32))), (0, .ref a_this), (2, .int v2), (3, .int v3)]) dX5_telling_65 3 rfl rfl (by decide) rfl ?_
      refine k_goto C (tgt := 36) dX5_telling_68 (by decide) ?_
      refine k_lv (lv' := [(0, .ref a_this), (2, .int v2), (3, .int v3), (4, .int (v4 + (-1 : Int32)))]) [1, 2, 3, 0] rfl ?_
      exact kc _ (Option.some.inj h).symm
    · have h := ifT c_59 h
      refine k_iload C dX5_telling_62 3 rfl ?_
      refine k_istore_n C (lv' := [(3, .int v4), (0, .ref a_this), (2, .int v2), (4, .int v4)]) dX5_telling_64 rfl (by decide) rfl ?_
      refine k_iinc C (v := (v4 + (-1 : Int32))) (lv' := [(4, .int (v4 + (-1 : Int32))), (3, .int v4), (0, .ref a_this), (2, .int v2)]) dX5_telling_65 3 rfl rfl (by decide) rfl ?_
      refine k_goto C (tgt := 36) dX5_telling_68 (by decide) ?_
      refine k_lv (lv' := [(0, .ref a_this), (2, .int v2), (3, .int v4), (4, .int (v4 + (-1 : Int32)))]) [2, 3, 1, 0] rfl ?_
      exact kc _ (Option.some.inj h).symm
set_option maxRecDepth 100000 in
set_option maxHeartbeats 4000000 in
theorem s_R_telling_l36 (C : kC p l e rm_R_telling s m args below meth c D (tyG cI cL cZ) A 5 cX5_telling yX5_telling.cls (Cond.code yX5_telling cX5_telling 5 (some .int) :: WS) (some .int)) {a_this : Nat} {a_gravel : Nat} {a_kind : Nat} {a_own : Nat} {a_likely : Nat} {a_tape : Nat} {a_holding : Nat} {a_rowLength : Nat} {a_rowOf : Nat} {a_refusals : Nat} {a_old : Nat} {a_ahead : Nat} {a_cost : Nat} {a_may : Nat} {a_rest : Nat} {a_way : Nat} {v2 : Int32} {v3 : Int32} {v4 : Int32} {c_n : Int32} {c_rain : Int32} {c_ear : Int32} {c_many : Int32} {c_seed : Int32} {c_taped : Int32} {c_from : Int32} {c_to : Int32} {c_token : Int32} {c_value : Int32} {c_imaged : Int32} {c_gravel : (Nat → Int32)} {c_kind : (Nat → Int32)} {c_own : (Nat → Int32)} {c_refusals : (Nat → Int32)} {x : (Int32 × Int32)} (h : f_R_telling_l36 c_n c_many c_gravel c_kind c_own v3 v4 c_rain = some x)
    (k0 : kW p l e rm_R_telling s m args below meth c D A 5 (cells_R_telling cI cL cZ a_this a_gravel a_kind a_own a_likely a_tape a_holding a_rowLength a_rowOf a_refusals a_old a_ahead a_cost a_may a_rest a_way c_n x.2 c_ear c_many c_seed c_taped c_from c_to c_token c_value c_imaged c_gravel c_kind c_own c_refusals) [(0, .ref a_this), (2, .int v2), (3, .int x.1)] Q 71 []) :
    kW p l e rm_R_telling s m args below meth c D A 5 (cells_R_telling cI cL cZ a_this a_gravel a_kind a_own a_likely a_tape a_holding a_rowLength a_rowOf a_refusals a_old a_ahead a_cost a_may a_rest a_way c_n c_rain c_ear c_many c_seed c_taped c_from c_to c_token c_value c_imaged c_gravel c_kind c_own c_refusals) [(0, .ref a_this), (2, .int v2), (3, .int v3), (4, .int v4)] Q 36 [] := by
  unfold f_R_telling_l36 at h
  exact iter_W (body := fun s => f_R_telling_b36 c_n c_many c_gravel c_kind c_own s.1 s.2.1 s.2.2) (r := x) (T := fun sg => kW p l e rm_R_telling s m args below meth c D A 5 (cells_R_telling cI cL cZ a_this a_gravel a_kind a_own a_likely a_tape a_holding a_rowLength a_rowOf a_refusals a_old a_ahead a_cost a_may a_rest a_way c_n sg.2.2 c_ear c_many c_seed c_taped c_from c_to c_token c_value c_imaged c_gravel c_kind c_own c_refusals) [(0, .ref a_this), (2, .int v2), (3, .int sg.1), (4, .int sg.2.1)] Q 36 []) (fun sg y hy hc _ hr => s_R_telling_b36 C (v2 := v2) (v3 := sg.1) (v4 := sg.2.1) (c_n := c_n) (c_rain := sg.2.2) (c_ear := c_ear) (c_many := c_many) (c_seed := c_seed) (c_taped := c_taped) (c_from := c_from) (c_to := c_to) (c_token := c_token) (c_value := c_value) (c_imaged := c_imaged) (c_gravel := c_gravel) (c_kind := c_kind) (c_own := c_own) (c_refusals := c_refusals) (x := y) hy hc (fun r e => by rw [hr r e]; exact k0)) FUEL (v3, v4, c_rain) h
set_option maxRecDepth 100000 in
set_option maxHeartbeats 4000000 in
theorem s_R_telling (C : kC p l e rm_R_telling s m args below meth c D (tyG cI cL cZ) A 5 cX5_telling yX5_telling.cls (Cond.code yX5_telling cX5_telling 5 (some .int) :: WS) (some .int)) {a_this : Nat} {a_gravel : Nat} {a_kind : Nat} {a_own : Nat} {a_likely : Nat} {a_tape : Nat} {a_holding : Nat} {a_rowLength : Nat} {a_rowOf : Nat} {a_refusals : Nat} {a_old : Nat} {a_ahead : Nat} {a_cost : Nat} {a_may : Nat} {a_rest : Nat} {a_way : Nat} {v1 : Int32} {c_n : Int32} {c_rain : Int32} {c_ear : Int32} {c_many : Int32} {c_seed : Int32} {c_taped : Int32} {c_from : Int32} {c_to : Int32} {c_token : Int32} {c_value : Int32} {c_imaged : Int32} {c_gravel : (Nat → Int32)} {c_kind : (Nat → Int32)} {c_own : (Nat → Int32)} {c_refusals : (Nat → Int32)} {x : (Int32 × Int32 × (Nat → Int32))} (h : f_R_telling v1 c_n c_rain c_many c_gravel c_kind c_own c_refusals = some x) :
    kW p l e rm_R_telling s m args below meth c D A 5 (cells_R_telling cI cL cZ a_this a_gravel a_kind a_own a_likely a_tape a_holding a_rowLength a_rowOf a_refusals a_old a_ahead a_cost a_may a_rest a_way c_n c_rain c_ear c_many c_seed c_taped c_from c_to c_token c_value c_imaged c_gravel c_kind c_own c_refusals) [(0, .ref a_this), (1, .int v1)] (MQ below (kQi D A (cells_R_telling cI cL cZ a_this a_gravel a_kind a_own a_likely a_tape a_holding a_rowLength a_rowOf a_refusals a_old a_ahead a_cost a_may a_rest a_way c_n x.2.1 c_ear c_many c_seed c_taped c_from c_to c_token c_value c_imaged c_gravel c_kind c_own x.2.2) x.1) args s 0 0 A) 0 [] := by
  unfold f_R_telling at h
  refine k_iload_n C dX5_telling_0 1 rfl rfl ?_
  refine k_iconst C (v := (0 : Int32)) dX5_telling_1 (by decide) ?_
  refine k_iconst C (v := (1 : Int32)) dX5_telling_2 (by decide) ?_
  obtain ⟨x1, hx1, h⟩ := bindE h
  refine kcallE_i C (r := x1) (fun H locs ls hP hD hS hF hz => krunS C (c_R_within l D cI cL cZ H.size v1 (0 : Int32) (1 : Int32) x1 hx1) (va_cwS 3 C.2.2.2.2.1 (gS wq_549 wq_550 wq_551 wq_548) rfl rfl rfl (by decide +kernel) ⟨(Nat.le_of_ble_eq_true rfl), (Nat.le_of_ble_eq_true rfl)⟩) kEnv_T rfl rfl (Nat.le_of_ble_eq_true rfl) dX5_telling_3 hP hD hz) ?_
  refine k_if_ne C (tgt := 16) dX5_telling_6 (by decide) (fun c_6 => ?_) (fun c_6 => ?_)
  · have h := ifF c_6 h
    refine k_iload_n C dX5_telling_16 1 rfl rfl ?_
    refine k_if_ne C (tgt := 25) dX5_telling_17 (by decide) (fun c_17 => ?_) (fun c_17 => ?_)
    · have h := ifF c_17 h
      refine k_aload_n C dX5_telling_25 0 rfl rfl ?_
      refine k_get C (C0 := RX5) (T := TX5) (N := 26) (fun w h => List.mem_cons_of_mem _ (us_R w h)) 0 rfl rfl 2 (by decide) (List.mem_cons_of_mem _ wq_579) rfl rfl dX5_telling_26 ?_
      refine k_istore_n C (lv' := [(2, .int c_rain), (0, .ref a_this), (1, .int v1)]) dX5_telling_29 rfl (by decide) rfl ?_
      refine k_iconst C (v := (-1 : Int32)) dX5_telling_30 (by decide) ?_
      refine k_istore_n C (lv' := [(3, .int (-1 : Int32)), (2, .int c_rain), (0, .ref a_this), (1, .int v1)]) dX5_telling_31 rfl (by decide) rfl ?_
      refine k_bipush C (v := (9 : Int32)) dX5_telling_32 (by decide) ?_
      refine k_istore C (lv' := [(4, .int (9 : Int32)), (3, .int (-1 : Int32)), (2, .int c_rain), (0, .ref a_this), (1, .int v1)]) dX5_telling_34 (by decide) rfl ?_
      obtain ⟨x4, hx4, h⟩ := bindE h
      refine k_lv (lv' := [(0, .ref a_this), (2, .int c_rain), (3, .int (-1 : Int32)), (4, .int (9 : Int32))]) [3, 2, 1, 0] rfl ?_
      refine s_R_telling_l36 C hx4 ?_
      refine k_aload_n C dX5_telling_71 0 rfl rfl ?_
      refine k_iload_n C dX5_telling_72 1 rfl rfl ?_
      refine k_put C (C0 := RX5) (T := TX5) (N := 26) (ws' := (cells_R_telling cI cL cZ a_this a_gravel a_kind a_own a_likely a_tape a_holding a_rowLength a_rowOf a_refusals a_old a_ahead a_cost a_may a_rest a_way c_n c_rain c_ear c_many c_seed c_taped c_from c_to c_token c_value c_imaged c_gravel c_kind c_own c_refusals)) (fun w h => List.mem_cons_of_mem _ (us_R w h)) tyX5 tyX5_ok nmX5 0 rfl rfl 2 (by decide) (List.mem_cons_of_mem _ wq_579) rfl rfl (tyX5_ok 2 (by decide)) rfl rfl (Nat.le_of_ble_eq_true rfl) rfl dX5_telling_73 ?_
      refine k_iload_n C dX5_telling_76 2 rfl rfl ?_
      obtain rfl := Option.some.inj h
      exact kret_i C rfl dX5_telling_77
    · have h := ifT c_17 h
      refine k_aload_n C dX5_telling_20 0 rfl rfl ?_
      obtain ⟨x5, hx5, h⟩ := bindE h
      refine kcallR_i C (wc := (cells_R_mostApart cI cL cZ a_this a_gravel a_kind a_own a_likely a_tape a_holding a_rowLength a_rowOf a_refusals a_old a_ahead a_cost a_may a_rest a_way c_n c_rain c_ear c_many c_seed c_taped c_from c_to c_token c_value c_imaged c_gravel c_kind c_own)) (r := x5) [0, 1, 2, 3] (fun H locs ls hP hD hS hF hz => krunV C (q0 := 0) (ci := 5) (c_R_mostApart l D cI cL cZ H.size a_this a_gravel a_kind a_own a_likely a_tape a_holding a_rowLength a_rowOf a_refusals a_old a_ahead a_cost a_may a_rest a_way c_n c_rain c_ear c_many c_seed c_taped c_from c_to c_token c_value c_imaged c_gravel c_kind c_own x5 hx5) (cwV 0 C.2.2.2.2.1 (gV wq_772 wq_773 wq_774 wq_551 wq_771) rfl rfl rfl (by decide +kernel) ⟨(Nat.le_of_ble_eq_true rfl), (Nat.le_of_ble_eq_true rfl)⟩) rfl rfl kEnv_T rfl rfl (Nat.le_of_ble_eq_true rfl) dX5_telling_21 hP hD hz) rfl (by decide) ?_
      obtain rfl := Option.some.inj h
      exact kret_i C rfl dX5_telling_24
  · have h := ifT c_6 h
    refine k_aload_n C dX5_telling_9 0 rfl rfl ?_
    refine k_bipush C (v := (-2 : Int32)) dX5_telling_10 (by decide) ?_
    obtain ⟨x6, hx6, h⟩ := bindE h
    refine kcallU_i C (wc := (cells_R_no cI cL cZ a_this a_gravel a_kind a_own a_likely a_tape a_holding a_rowLength a_rowOf a_refusals a_old a_ahead a_cost a_may a_rest a_way c_n c_rain c_ear c_many c_seed c_taped c_from c_to c_token c_value c_imaged c_refusals)) (w1 := (cells_R_no cI cL cZ a_this a_gravel a_kind a_own a_likely a_tape a_holding a_rowLength a_rowOf a_refusals a_old a_ahead a_cost a_may a_rest a_way c_n c_rain c_ear c_many c_seed c_taped c_from c_to c_token c_value c_imaged x6.2)) (ws' := (cells_R_telling cI cL cZ a_this a_gravel a_kind a_own a_likely a_tape a_holding a_rowLength a_rowOf a_refusals a_old a_ahead a_cost a_may a_rest a_way c_n c_rain c_ear c_many c_seed c_taped c_from c_to c_token c_value c_imaged c_gravel c_kind c_own x6.2)) (r := x6.1) [0, 4] (fun H locs ls hP hD hS hF hz => krunV C (q0 := 0) (ci := 5) (c_R_no l D cI cL cZ H.size a_this a_gravel a_kind a_own a_likely a_tape a_holding a_rowLength a_rowOf a_refusals a_old a_ahead a_cost a_may a_rest a_way (-2 : Int32) c_n c_rain c_ear c_many c_seed c_taped c_from c_to c_token c_value c_imaged c_refusals x6 hx6) (cwV 1 C.2.2.2.2.1 (gV wq_558 wq_559 wq_560 wq_551 wq_557) rfl rfl rfl (by decide +kernel) ⟨(Nat.le_of_ble_eq_true rfl), (Nat.le_of_ble_eq_true rfl)⟩) rfl rfl kEnv_T rfl rfl (Nat.le_of_ble_eq_true rfl) dX5_telling_12 hP hD hz) rfl (by decide) rfl rfl ?_
    obtain rfl := Option.some.inj h
    exact kret_i C rfl dX5_telling_15
theorem c_R_telling (l : Launch) (D : va_G) (cI : ClassId) (cL : ClassId) (cZ : ClassId) (sz : Nat) (a_this : Nat) (a_gravel : Nat) (a_kind : Nat) (a_own : Nat) (a_likely : Nat) (a_tape : Nat) (a_holding : Nat) (a_rowLength : Nat) (a_rowOf : Nat) (a_refusals : Nat) (a_old : Nat) (a_ahead : Nat) (a_cost : Nat) (a_may : Nat) (a_rest : Nat) (a_way : Nat) (v1 : Int32) (c_n : Int32) (c_rain : Int32) (c_ear : Int32) (c_many : Int32) (c_seed : Int32) (c_taped : Int32) (c_from : Int32) (c_to : Int32) (c_token : Int32) (c_value : Int32) (c_imaged : Int32) (c_gravel : (Nat → Int32)) (c_kind : (Nat → Int32)) (c_own : (Nat → Int32)) (c_refusals : (Nat → Int32)) (x : (Int32 × Int32 × (Nat → Int32))) (h : f_R_telling v1 c_n c_rain c_many c_gravel c_kind c_own c_refusals = some x) :
    Met l yX5_telling (Cond.code yX5_telling cX5_telling 5 (some .int) :: WS) rm_R_telling (kP D (tyG cI cL cZ) kTrue [.ref a_this, .int v1] sz (cells_R_telling cI cL cZ a_this a_gravel a_kind a_own a_likely a_tape a_holding a_rowLength a_rowOf a_refusals a_old a_ahead a_cost a_may a_rest a_way c_n c_rain c_ear c_many c_seed c_taped c_from c_to c_token c_value c_imaged c_gravel c_kind c_own c_refusals)) (kQi D (va_A (cells_R_telling cI cL cZ a_this a_gravel a_kind a_own a_likely a_tape a_holding a_rowLength a_rowOf a_refusals a_old a_ahead a_cost a_may a_rest a_way c_n c_rain c_ear c_many c_seed c_taped c_from c_to c_token c_value c_imaged c_gravel c_kind c_own c_refusals) sz) (cells_R_telling cI cL cZ a_this a_gravel a_kind a_own a_likely a_tape a_holding a_rowLength a_rowOf a_refusals a_old a_ahead a_cost a_may a_rest a_way c_n x.2.1 c_ear c_many c_seed c_taped c_from c_to c_token c_value c_imaged c_gravel c_kind c_own x.2.2) x.1) 0 0 (va_A (cells_R_telling cI cL cZ a_this a_gravel a_kind a_own a_likely a_tape a_holding a_rowLength a_rowOf a_refusals a_old a_ahead a_cost a_may a_rest a_way c_n c_rain c_ear c_many c_seed c_taped c_from c_to c_token c_value c_imaged c_gravel c_kind c_own c_refusals) sz) :=
  kmet (by decide) (Nat.le_of_ble_eq_true rfl) rfl (fun p e s m below meth c C hE => s_R_telling C h)
abbrev cells_R_as (cI : ClassId) (cL : ClassId) (cZ : ClassId) (a_this : Nat) (a_gravel : Nat) (a_kind : Nat) (a_own : Nat) (a_likely : Nat) (a_tape : Nat) (a_holding : Nat) (a_rowLength : Nat) (a_rowOf : Nat) (a_refusals : Nat) (a_old : Nat) (a_ahead : Nat) (a_cost : Nat) (a_may : Nat) (a_rest : Nat) (a_way : Nat) (c_n : Int32) (c_rain : Int32) (c_ear : Int32) (c_many : Int32) (c_seed : Int32) (c_taped : Int32) (c_from : Int32) (c_to : Int32) (c_token : Int32) (c_value : Int32) (c_imaged : Int32) (c_gravel : (Nat → Int32)) (c_kind : (Nat → Int32)) (c_own : (Nat → Int32)) (c_refusals : (Nat → Int32)) (c_may : (Nat → Int32)) (c_rest : (Nat → Int32)) (c_way : (Nat → Int32)) : va_W := [(a_this, .inr (5, [.int c_n, .ref a_gravel, .int c_rain, .int c_ear, .int c_many, .ref a_kind, .ref a_own, .ref a_likely, .int c_seed, .int c_taped, .ref a_tape, .int c_from, .int c_to, .int c_token, .int c_value, .ref a_holding, .ref a_rowLength, .ref a_rowOf, .ref a_refusals, .int c_imaged, .ref a_old, .ref a_ahead, .ref a_cost, .ref a_may, .ref a_rest, .ref a_way])), (a_gravel, .inl (cI, 36, .inl c_gravel)), (a_kind, .inl (cI, 8, .inl c_kind)), (a_own, .inl (cI, 8, .inl c_own)), (a_refusals, .inl (cI, 7, .inl c_refusals)), (a_may, .inl (cZ, 36, .inl c_may)), (a_rest, .inl (cI, 36, .inl c_rest)), (a_way, .inl (cI, 6, .inl c_way))]
abbrev rm_R_as : Room := { frames := 4, cells := 0, slots := 0, locals := 100 }

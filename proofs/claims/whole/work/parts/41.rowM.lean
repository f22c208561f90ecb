variable {p : Program} {l : Launch} {e : Env} {s : State} {m : MethodId} {args : Array Value} {below : List Frame} {meth : Method} {c : Code} {D : va_G} {A : Nat → Prop} {cI cL cZ : ClassId} {Q : State → Prop}
set_option maxRecDepth 100000 in
set_option maxHeartbeats 4000000 in
theorem s_M_heardBy_b19 (C : kC p l e rm_M_heardBy s m args below meth c D (tyG cI cL cZ) A 4 cX4_heardBy yX4_heardBy.cls (Cond.code yX4_heardBy cX4_heardBy 4 (some .int) :: WS) (some .int)) {X : kX} (hE : kEs X A s) {a_this : Nat} {a_now : Nat} {a_kept : Nat} {a_trial : Nat} {a_shelves : Nat} {a_tape : Nat} {a_paths : Nat} {a_sounds : Nat} {a_volumes : Nat} {a_refusals : Nat} {a_now_stones : Nat} {a_now_kinds : Nat} {a_now_weights : Nat} {a_now_chances : Nat} {v1 : Int32} {v2 : Int32} {v3 : Int32} {c_isKept : Int32} {c_now_width : Int32} {c_now_rain : Int32} {c_now_ear : Int32} {c_now_walkers : Int32} {c_now_seed : Int32} {c_now_stones : (Nat → Int32)} {c_now_kinds : (Nat → Int32)} {c_now_weights : (Nat → Int32)} {c_refusals : (Nat → Int32)} {x : ((Int32 × Int32) ⊕ Int32)} (h : f_M_heardBy_b19 v1 c_now_width c_now_rain c_now_ear c_now_stones c_now_kinds c_now_weights v2 v3 = some x)
    (kc : ∀ s', x = .inl s' → kW p l e rm_M_heardBy s m args below meth c D A 4 (cells_M_heardBy cI cL cZ a_this a_now a_kept a_trial a_shelves a_tape a_paths a_sounds a_volumes a_refusals a_now_stones a_now_kinds a_now_weights a_now_chances c_isKept c_now_width c_now_rain c_now_ear c_now_walkers c_now_seed c_now_stones c_now_kinds c_now_weights c_refusals) [(0, .ref a_this), (1, .int v1), (2, .int s'.1), (3, .int s'.2)] Q 19 [])
    (k0 : ∀ r, x = .inr r → kW p l e rm_M_heardBy s m args below meth c D A 4 (cells_M_heardBy cI cL cZ a_this a_now a_kept a_trial a_shelves a_tape a_paths a_sounds a_volumes a_refusals a_now_stones a_now_kinds a_now_weights a_now_chances c_isKept c_now_width c_now_rain c_now_ear c_now_walkers c_now_seed c_now_stones c_now_kinds c_now_weights c_refusals) [(2, .int r)] Q 58 []) :
    kW p l e rm_M_heardBy s m args below meth c D A 4 (cells_M_heardBy cI cL cZ a_this a_now a_kept a_trial a_shelves a_tape a_paths a_sounds a_volumes a_refusals a_now_stones a_now_kinds a_now_weights a_now_chances c_isKept c_now_width c_now_rain c_now_ear c_now_walkers c_now_seed c_now_stones c_now_kinds c_now_weights c_refusals) [(0, .ref a_this), (1, .int v1), (2, .int v2), (3, .int v3)] Q 19 [] := by
  unfold f_M_heardBy_b19 at h
  refine k_iload_n C dX4_heardBy_19 3 rfl rfl ?_
  refine k_aload_n C dX4_heardBy_20 0 rfl rfl ?_
  refine k_get C (C0 := RX4) (T := TX4) (N := 10) (fun w h => List.mem_cons_of_mem _ (us_M w h)) 0 rfl rfl 0 (by decide) (List.mem_cons_of_mem _ wq_62) rfl rfl dX4_heardBy_21 ?_
  obtain ⟨x2, hx2, h⟩ := bindE h
  refine kcallR_i C (wc := (cells_D_cells cI cL cZ a_now a_now_stones a_now_kinds a_now_weights a_now_chances c_now_width c_now_rain c_now_ear c_now_walkers c_now_seed)) (r := x2) [1] (fun H locs ls hP hD hS hF hz => krunV C (q0 := 0) (ci := 0) (c_D_cells l D cI cL cZ H.size a_now a_now_stones a_now_kinds a_now_weights a_now_chances c_now_width c_now_rain c_now_ear c_now_walkers c_now_seed x2 hx2) (cwV 0 C.2.2.2.2.1 (gV wq_128 wq_129 wq_130 wq_81 wq_127) rfl rfl rfl (by decide +kernel) ⟨(Nat.le_of_ble_eq_true rfl), (Nat.le_of_ble_eq_true rfl)⟩) rfl rfl kEnv_T rfl rfl (Nat.le_of_ble_eq_true rfl) dX4_heardBy_24 hP hD hz) rfl (by decide) ?_
  refine k_icmp_ge C (tgt := 58) dX4_heardBy_27 (by decide) (fun c_27 => ?_) (fun c_27 => ?_)
  · have h := ifT c_27 h
    refine k_lv (lv' := [(2, .int v2)]) [2] rfl ?_
    exact k0 _ (Option.some.inj h).symm
  · have h := ifF c_27 h
    refine k_aload_n C dX4_heardBy_30 0 rfl rfl ?_
    refine k_get C (C0 := RX4) (T := TX4) (N := 10) (fun w h => List.mem_cons_of_mem _ (us_M w h)) 0 rfl rfl 0 (by decide) (List.mem_cons_of_mem _ wq_62) rfl rfl dX4_heardBy_31 ?_
    refine k_iload_n C dX4_heardBy_34 1 rfl rfl ?_
    refine k_iload_n C dX4_heardBy_35 3 rfl rfl ?_
    obtain ⟨x3, hx3, h⟩ := bindE h
    refine kcallR_i C (wc := (cells_D_stepOn cI cL cZ a_now a_now_stones a_now_kinds a_now_weights a_now_chances c_now_width c_now_rain c_now_ear c_now_walkers c_now_seed c_now_stones c_now_kinds c_now_weights)) (r := x3) [1, 2, 3, 4] (fun H locs ls hP hD hS hF hz => krunV C (q0 := 0) (ci := 0) (c_D_stepOn l D cI cL cZ X H.size a_now a_now_stones a_now_kinds a_now_weights a_now_chances v1 v3 c_now_width c_now_rain c_now_ear c_now_walkers c_now_seed c_now_stones c_now_kinds c_now_weights x3 hx3) (cwV 2 C.2.2.2.2.1 (gV wq_257 wq_258 wq_259 wq_81 wq_256) rfl rfl rfl (by decide +kernel) ⟨(Nat.le_of_ble_eq_true rfl), (Nat.le_of_ble_eq_true rfl)⟩) rfl rfl (kEs_call hE hS hF) rfl rfl (Nat.le_of_ble_eq_true rfl) dX4_heardBy_36 hP hD hz) rfl (by decide) ?_
    refine k_aload_n C dX4_heardBy_39 0 rfl rfl ?_
    refine k_get C (C0 := RX4) (T := TX4) (N := 10) (fun w h => List.mem_cons_of_mem _ (us_M w h)) 0 rfl rfl 0 (by decide) (List.mem_cons_of_mem _ wq_62) rfl rfl dX4_heardBy_40 ?_
    refine k_get C (C0 := RX0) (T := TX0) (N := 9) (fun w h => List.mem_cons_of_mem _ (us_D w h)) 1 rfl rfl 6 (by decide) (List.mem_cons_of_mem _ wq_140) rfl rfl dX4_heardBy_43 ?_
    refine k_icmp_lt C (tgt := 52) dX4_heardBy_46 (by decide) (fun c_46 => ?_) (fun c_46 => ?_)
    · have h := ifT c_46 h
      refine k_iinc C (v := (v3 + (1 : Int32))) (lv' := [(3, .int (v3 + (1 : Int32))), (0, .ref a_this), (1, .int v1), (2, .int v2)]) dX4_heardBy_52 3 rfl rfl (by decide) rfl ?_
      refine k_goto C (tgt := 19) dX4_heardBy_55 (by decide) ?_
      refine k_lv (lv' := [(0, .ref a_this), (1, .int v1), (2, .int v2), (3, .int (v3 + (1 : Int32)))]) [1, 2, 3, 0] rfl ?_
      exact kc _ (Option.some.inj h).symm
    · have h := ifF c_46 h
      refine k_iinc C (v := (v2 + (1 : Int32))) (lv' := [(2, .int (v2 + (1 : Int32))), (0, .ref a_this), (1, .int v1), (3, .int v3)]) dX4_heardBy_49 2 rfl rfl (by decide) rfl ?_
      refine k_iinc C (v := (v3 + (1 : Int32))) (lv' := [(3, .int (v3 + (1 : Int32))), (2, .int (v2 + (1 : Int32))), (0, .ref a_this), (1, .int v1)]) dX4_heardBy_52 3 rfl rfl (by decide) rfl ?_
      refine k_goto C (tgt := 19) dX4_heardBy_55 (by decide) ?_
      refine k_lv (lv' := [(0, .ref a_this), (1, .int v1), (2, .int (v2 + (1 : Int32))), (3, .int (v3 + (1 : Int32)))]) [2, 3, 1, 0] rfl ?_
      exact kc _ (Option.some.inj h).symm
set_option maxRecDepth 100000 in
set_option maxHeartbeats 4000000 in
theorem s_M_heardBy_l19 (C : kC p l e rm_M_heardBy s m args below meth c D (tyG cI cL cZ) A 4 cX4_heardBy yX4_heardBy.cls (Cond.code yX4_heardBy cX4_heardBy 4 (some .int) :: WS) (some .int)) {X : kX} (hE : kEs X A s) {a_this : Nat} {a_now : Nat} {a_kept : Nat} {a_trial : Nat} {a_shelves : Nat} {a_tape : Nat} {a_paths : Nat} {a_sounds : Nat} {a_volumes : Nat} {a_refusals : Nat} {a_now_stones : Nat} {a_now_kinds : Nat} {a_now_weights : Nat} {a_now_chances : Nat} {v1 : Int32} {v2 : Int32} {v3 : Int32} {c_isKept : Int32} {c_now_width : Int32} {c_now_rain : Int32} {c_now_ear : Int32} {c_now_walkers : Int32} {c_now_seed : Int32} {c_now_stones : (Nat → Int32)} {c_now_kinds : (Nat → Int32)} {c_now_weights : (Nat → Int32)} {c_refusals : (Nat → Int32)} {x : Int32} (h : f_M_heardBy_l19 v1 c_now_width c_now_rain c_now_ear c_now_stones c_now_kinds c_now_weights v2 v3 = some x)
    (k0 : kW p l e rm_M_heardBy s m args below meth c D A 4 (cells_M_heardBy cI cL cZ a_this a_now a_kept a_trial a_shelves a_tape a_paths a_sounds a_volumes a_refusals a_now_stones a_now_kinds a_now_weights a_now_chances c_isKept c_now_width c_now_rain c_now_ear c_now_walkers c_now_seed c_now_stones c_now_kinds c_now_weights c_refusals) [(2, .int x)] Q 58 []) :
    kW p l e rm_M_heardBy s m args below meth c D A 4 (cells_M_heardBy cI cL cZ a_this a_now a_kept a_trial a_shelves a_tape a_paths a_sounds a_volumes a_refusals a_now_stones a_now_kinds a_now_weights a_now_chances c_isKept c_now_width c_now_rain c_now_ear c_now_walkers c_now_seed c_now_stones c_now_kinds c_now_weights c_refusals) [(0, .ref a_this), (1, .int v1), (2, .int v2), (3, .int v3)] Q 19 [] := by
  unfold f_M_heardBy_l19 at h
  exact iter_W (body := fun s => f_M_heardBy_b19 v1 c_now_width c_now_rain c_now_ear c_now_stones c_now_kinds c_now_weights s.1 s.2) (r := x) (T := fun sg => kW p l e rm_M_heardBy s m args below meth c D A 4 (cells_M_heardBy cI cL cZ a_this a_now a_kept a_trial a_shelves a_tape a_paths a_sounds a_volumes a_refusals a_now_stones a_now_kinds a_now_weights a_now_chances c_isKept c_now_width c_now_rain c_now_ear c_now_walkers c_now_seed c_now_stones c_now_kinds c_now_weights c_refusals) [(0, .ref a_this), (1, .int v1), (2, .int sg.1), (3, .int sg.2)] Q 19 []) (fun sg y hy hc _ hr => s_M_heardBy_b19 C hE (v1 := v1) (v2 := sg.1) (v3 := sg.2) (c_isKept := c_isKept) (c_now_width := c_now_width) (c_now_rain := c_now_rain) (c_now_ear := c_now_ear) (c_now_walkers := c_now_walkers) (c_now_seed := c_now_seed) (c_now_stones := c_now_stones) (c_now_kinds := c_now_kinds) (c_now_weights := c_now_weights) (c_refusals := c_refusals) (x := y) hy hc (fun r e => by rw [hr r e]; exact k0)) FUEL (v2, v3) h
set_option maxRecDepth 100000 in
set_option maxHeartbeats 4000000 in
theorem s_M_heardBy (C : kC p l e rm_M_heardBy s m args below meth c D (tyG cI cL cZ) A 4 cX4_heardBy yX4_heardBy.cls (Cond.code yX4_heardBy cX4_heardBy 4 (some .int) :: WS) (some .int)) {X : kX} (hE : kEs X A s) {a_this : Nat} {a_now : Nat} {a_kept : Nat} {a_trial : Nat} {a_shelves : Nat} {a_tape : Nat} {a_paths : Nat} {a_sounds : Nat} {a_volumes : Nat} {a_refusals : Nat} {a_now_stones : Nat} {a_now_kinds : Nat} {a_now_weights : Nat} {a_now_chances : Nat} {v1 : Int32} {c_isKept : Int32} {c_now_width : Int32} {c_now_rain : Int32} {c_now_ear : Int32} {c_now_walkers : Int32} {c_now_seed : Int32} {c_now_stones : (Nat → Int32)} {c_now_kinds : (Nat → Int32)} {c_now_weights : (Nat → Int32)} {c_refusals : (Nat → Int32)} {x : (Int32 × (Nat → Int32))} (h : f_M_heardBy v1 c_now_width c_now_rain c_now_ear c_now_walkers c_now_stones c_now_kinds c_now_weights c_refusals = some x) :
    kW p l e rm_M_heardBy s m args below meth c D A 4 (cells_M_heardBy cI cL cZ a_this a_now a_kept a_trial a_shelves a_tape a_paths a_sounds a_volumes a_refusals a_now_stones a_now_kinds a_now_weights a_now_chances c_isKept c_now_width c_now_rain c_now_ear c_now_walkers c_now_seed c_now_stones c_now_kinds c_now_weights c_refusals) [(0, .ref a_this), (1, .int v1)] (MQ below (kQi D A (cells_M_heardBy cI cL cZ a_this a_now a_kept a_trial a_shelves a_tape a_paths a_sounds a_volumes a_refusals a_now_stones a_now_kinds a_now_weights a_now_chances c_isKept c_now_width c_now_rain c_now_ear c_now_walkers c_now_seed c_now_stones c_now_kinds c_now_weights x.2) x.1) args s 0 0 A) 0 [] := by
  unfold f_M_heardBy at h
  refine k_aload_n C dX4_heardBy_0 0 rfl rfl ?_
  refine k_iload_n C dX4_heardBy_1 1 rfl rfl ?_
  obtain ⟨x1, hx1, h⟩ := bindE h
  refine kcallR_i C (wc := (cells_M_isFeet cI cL cZ a_this a_now a_kept a_trial a_shelves a_tape a_paths a_sounds a_volumes a_refusals a_now_stones a_now_kinds a_now_weights a_now_chances c_isKept c_now_width c_now_rain c_now_ear c_now_walkers c_now_seed)) (r := x1) [0, 1] (fun H locs ls hP hD hS hF hz => krunV C (q0 := 0) (ci := 4) (c_M_isFeet l D cI cL cZ H.size a_this a_now a_kept a_trial a_shelves a_tape a_paths a_sounds a_volumes a_refusals a_now_stones a_now_kinds a_now_weights a_now_chances v1 c_isKept c_now_width c_now_rain c_now_ear c_now_walkers c_now_seed x1 hx1) (cwV 1 C.2.2.2.2.1 (gV wq_69 wq_70 wq_71 wq_3 wq_68) rfl rfl rfl (by decide +kernel) ⟨(Nat.le_of_ble_eq_true rfl), (Nat.le_of_ble_eq_true rfl)⟩) rfl rfl kEnv_T rfl rfl (Nat.le_of_ble_eq_true rfl) dX4_heardBy_2 hP hD hz) rfl (by decide) ?_
  refine k_if_ne C (tgt := 15) dX4_heardBy_5 (by decide) (fun c_5 => ?_) (fun c_5 => ?_)
  · have h := ifF c_5 h
    refine k_iconst C (v := (0 : Int32)) dX4_heardBy_15 (by decide) ?_
    refine k_istore_n C (lv' := [(2, .int (0 : Int32)), (0, .ref a_this), (1, .int v1)]) dX4_heardBy_16 rfl (by decide) rfl ?_
    refine k_iconst C (v := (0 : Int32)) dX4_heardBy_17 (by decide) ?_
    refine k_istore_n C (lv' := [(3, .int (0 : Int32)), (2, .int (0 : Int32)), (0, .ref a_this), (1, .int v1)]) dX4_heardBy_18 rfl (by decide) rfl ?_
    obtain ⟨x4, hx4, h⟩ := bindE h
    refine k_lv (lv' := [(0, .ref a_this), (1, .int v1), (2, .int (0 : Int32)), (3, .int (0 : Int32))]) [2, 3, 1, 0] rfl ?_
    refine s_M_heardBy_l19 C hE hx4 ?_
    refine k_iload_n C dX4_heardBy_58 0 rfl rfl ?_
    obtain rfl := Option.some.inj h
    exact kret_i C rfl dX4_heardBy_59
  · have h := ifT c_5 h
    refine k_aload_n C dX4_heardBy_8 0 rfl rfl ?_
    refine k_bipush C (v := (-2 : Int32)) dX4_heardBy_9 (by decide) ?_
    obtain ⟨x5, hx5, h⟩ := bindE h
    refine kcallU_i C (wc := (cells_M_refuse cI cL cZ a_this a_now a_kept a_trial a_shelves a_tape a_paths a_sounds a_volumes a_refusals c_isKept c_refusals)) (w1 := (cells_M_refuse cI cL cZ a_this a_now a_kept a_trial a_shelves a_tape a_paths a_sounds a_volumes a_refusals c_isKept x5.2)) (ws' := (cells_M_heardBy cI cL cZ a_this a_now a_kept a_trial a_shelves a_tape a_paths a_sounds a_volumes a_refusals a_now_stones a_now_kinds a_now_weights a_now_chances c_isKept c_now_width c_now_rain c_now_ear c_now_walkers c_now_seed c_now_stones c_now_kinds c_now_weights x5.2)) (r := x5.1) [0, 5] (fun H locs ls hP hD hS hF hz => krunV C (q0 := 0) (ci := 4) (c_M_refuse l D cI cL cZ H.size a_this a_now a_kept a_trial a_shelves a_tape a_paths a_sounds a_volumes a_refusals (-2 : Int32) c_isKept c_refusals x5 hx5) (cwV 1 C.2.2.2.2.1 (gV wq_12 wq_13 wq_14 wq_3 wq_11) rfl rfl rfl (by decide +kernel) ⟨(Nat.le_of_ble_eq_true rfl), (Nat.le_of_ble_eq_true rfl)⟩) rfl rfl kEnv_T rfl rfl (Nat.le_of_ble_eq_true rfl) dX4_heardBy_11 hP hD hz) rfl (by decide) rfl rfl ?_
    obtain rfl := Option.some.inj h
    exact kret_i C rfl dX4_heardBy_14
theorem c_M_heardBy (l : Launch) (D : va_G) (cI : ClassId) (cL : ClassId) (cZ : ClassId) (X : kX) (sz : Nat) (a_this : Nat) (a_now : Nat) (a_kept : Nat) (a_trial : Nat) (a_shelves : Nat) (a_tape : Nat) (a_paths : Nat) (a_sounds : Nat) (a_volumes : Nat) (a_refusals : Nat) (a_now_stones : Nat) (a_now_kinds : Nat) (a_now_weights : Nat) (a_now_chances : Nat) (v1 : Int32) (c_isKept : Int32) (c_now_width : Int32) (c_now_rain : Int32) (c_now_ear : Int32) (c_now_walkers : Int32) (c_now_seed : Int32) (c_now_stones : (Nat → Int32)) (c_now_kinds : (Nat → Int32)) (c_now_weights : (Nat → Int32)) (c_refusals : (Nat → Int32)) (x : (Int32 × (Nat → Int32))) (h : f_M_heardBy v1 c_now_width c_now_rain c_now_ear c_now_walkers c_now_stones c_now_kinds c_now_weights c_refusals = some x) :
    Met l yX4_heardBy (Cond.code yX4_heardBy cX4_heardBy 4 (some .int) :: WS) rm_M_heardBy (kP D (tyG cI cL cZ) (kEs X (va_A (cells_M_heardBy cI cL cZ a_this a_now a_kept a_trial a_shelves a_tape a_paths a_sounds a_volumes a_refusals a_now_stones a_now_kinds a_now_weights a_now_chances c_isKept c_now_width c_now_rain c_now_ear c_now_walkers c_now_seed c_now_stones c_now_kinds c_now_weights c_refusals) sz)) [.ref a_this, .int v1] sz (cells_M_heardBy cI cL cZ a_this a_now a_kept a_trial a_shelves a_tape a_paths a_sounds a_volumes a_refusals a_now_stones a_now_kinds a_now_weights a_now_chances c_isKept c_now_width c_now_rain c_now_ear c_now_walkers c_now_seed c_now_stones c_now_kinds c_now_weights c_refusals)) (kQi D (va_A (cells_M_heardBy cI cL cZ a_this a_now a_kept a_trial a_shelves a_tape a_paths a_sounds a_volumes a_refusals a_now_stones a_now_kinds a_now_weights a_now_chances c_isKept c_now_width c_now_rain c_now_ear c_now_walkers c_now_seed c_now_stones c_now_kinds c_now_weights c_refusals) sz) (cells_M_heardBy cI cL cZ a_this a_now a_kept a_trial a_shelves a_tape a_paths a_sounds a_volumes a_refusals a_now_stones a_now_kinds a_now_weights a_now_chances c_isKept c_now_width c_now_rain c_now_ear c_now_walkers c_now_seed c_now_stones c_now_kinds c_now_weights x.2) x.1) 0 0 (va_A (cells_M_heardBy cI cL cZ a_this a_now a_kept a_trial a_shelves a_tape a_paths a_sounds a_volumes a_refusals a_now_stones a_now_kinds a_now_weights a_now_chances c_isKept c_now_width c_now_rain c_now_ear c_now_walkers c_now_seed c_now_stones c_now_kinds c_now_weights c_refusals) sz) :=
  kmet (by decide) (Nat.le_of_ble_eq_true rfl) rfl (fun p e s m below meth c C hE => s_M_heardBy C hE h)
abbrev cells_M_isPair (cI : ClassId) (cL : ClassId) (cZ : ClassId) (a_this : Nat) (a_now : Nat) (a_kept : Nat) (a_trial : Nat) (a_shelves : Nat) (a_tape : Nat) (a_paths : Nat) (a_sounds : Nat) (a_volumes : Nat) (a_refusals : Nat) (a_now_stones : Nat) (a_now_kinds : Nat) (a_now_weights : Nat) (a_now_chances : Nat) (c_isKept : Int32) (c_now_width : Int32) (c_now_rain : Int32) (c_now_ear : Int32) (c_now_walkers : Int32) (c_now_seed : Int32) : va_W := [(a_this, .inr (4, [.ref a_now, .ref a_kept, .ref a_trial, .ref a_shelves, .ref a_tape, .ref a_paths, .ref a_sounds, .ref a_volumes, .ref a_refusals, .int c_isKept])), (a_now, .inr (0, [.ref a_now_stones, .ref a_now_kinds, .ref a_now_weights, .ref a_now_chances, .int c_now_width, .int c_now_rain, .int c_now_ear, .int c_now_walkers, .int c_now_seed]))]
abbrev rm_M_isPair : Room := { frames := 2, cells := 0, slots := 0, locals := 43 }
set_option maxRecDepth 100000 in
set_option maxHeartbeats 4000000 in
theorem s_M_isPair (C : kC p l e rm_M_isPair s m args below meth c D (tyG cI cL cZ) A 3 cX4_isPair yX4_isPair.cls (Cond.code yX4_isPair cX4_isPair 3 (some .boolean) :: WS) (some .boolean)) {a_this : Nat} {a_now : Nat} {a_kept : Nat} {a_trial : Nat} {a_shelves : Nat} {a_tape : Nat} {a_paths : Nat} {a_sounds : Nat} {a_volumes : Nat} {a_refusals : Nat} {a_now_stones : Nat} {a_now_kinds : Nat} {a_now_weights : Nat} {a_now_chances : Nat} {v1 : Int32} {v2 : Int32} {c_isKept : Int32} {c_now_width : Int32} {c_now_rain : Int32} {c_now_ear : Int32} {c_now_walkers : Int32} {c_now_seed : Int32} {x : Int32} (h : f_M_isPair v1 v2 c_now_walkers = some x) :
    kW p l e rm_M_isPair s m args below meth c D A 3 (cells_M_isPair cI cL cZ a_this a_now a_kept a_trial a_shelves a_tape a_paths a_sounds a_volumes a_refusals a_now_stones a_now_kinds a_now_weights a_now_chances c_isKept c_now_width c_now_rain c_now_ear c_now_walkers c_now_seed) [(0, .ref a_this), (1, .int v1), (2, .int v2)] (MQ below (kQi D A (cells_M_isPair cI cL cZ a_this a_now a_kept a_trial a_shelves a_tape a_paths a_sounds a_volumes a_refusals a_now_stones a_now_kinds a_now_weights a_now_chances c_isKept c_now_width c_now_rain c_now_ear c_now_walkers c_now_seed) x) args s 0 0 A) 0 [] := by
  unfold f_M_isPair at h
  refine k_aload_n C dX4_isPair_0 0 rfl rfl ?_
  refine k_iload_n C dX4_isPair_1 1 rfl rfl ?_
  obtain ⟨x1, hx1, h⟩ := bindE h
  refine kcallR_i C (wc := (cells_M_isFeet cI cL cZ a_this a_now a_kept a_trial a_shelves a_tape a_paths a_sounds a_volumes a_refusals a_now_stones a_now_kinds a_now_weights a_now_chances c_isKept c_now_width c_now_rain c_now_ear c_now_walkers c_now_seed)) (r := x1) [0, 1] (fun H locs ls hP hD hS hF hz => krunV C (q0 := 0) (ci := 4) (c_M_isFeet l D cI cL cZ H.size a_this a_now a_kept a_trial a_shelves a_tape a_paths a_sounds a_volumes a_refusals a_now_stones a_now_kinds a_now_weights a_now_chances v1 c_isKept c_now_width c_now_rain c_now_ear c_now_walkers c_now_seed x1 hx1) (cwV 1 C.2.2.2.2.1 (gV wq_69 wq_70 wq_71 wq_3 wq_68) rfl rfl rfl (by decide +kernel) ⟨(Nat.le_of_ble_eq_true rfl), (Nat.le_of_ble_eq_true rfl)⟩) rfl rfl kEnv_T rfl rfl (Nat.le_of_ble_eq_true rfl) dX4_isPair_2 hP hD hz) rfl (by decide) ?_
  refine k_if_eq C (tgt := 25) dX4_isPair_5 (by decide) (fun c_5 => ?_) (fun c_5 => ?_)
  · have h := ifT c_5 h
    refine k_iconst C (v := (0 : Int32)) dX4_isPair_25 (by decide) ?_
    obtain rfl := Option.some.inj h
    exact kret_z C rfl nz0 dX4_isPair_26
  · have h := ifF c_5 h
    refine k_aload_n C dX4_isPair_8 0 rfl rfl ?_
    refine k_iload_n C dX4_isPair_9 2 rfl rfl ?_
    obtain ⟨x2, hx2, h⟩ := bindE h
    refine kcallR_i C (wc := (cells_M_isFeet cI cL cZ a_this a_now a_kept a_trial a_shelves a_tape a_paths a_sounds a_volumes a_refusals a_now_stones a_now_kinds a_now_weights a_now_chances c_isKept c_now_width c_now_rain c_now_ear c_now_walkers c_now_seed)) (r := x2) [0, 1] (fun H locs ls hP hD hS hF hz => krunV C (q0 := 0) (ci := 4) (c_M_isFeet l D cI cL cZ H.size a_this a_now a_kept a_trial a_shelves a_tape a_paths a_sounds a_volumes a_refusals a_now_stones a_now_kinds a_now_weights a_now_chances v2 c_isKept c_now_width c_now_rain c_now_ear c_now_walkers c_now_seed x2 hx2) (cwV 1 C.2.2.2.2.1 (gV wq_69 wq_70 wq_71 wq_3 wq_68) rfl rfl rfl (by decide +kernel) ⟨(Nat.le_of_ble_eq_true rfl), (Nat.le_of_ble_eq_true rfl)⟩) rfl rfl kEnv_T rfl rfl (Nat.le_of_ble_eq_true rfl) dX4_isPair_10 hP hD hz) rfl (by decide) ?_
    refine k_if_eq C (tgt := 25) dX4_isPair_13 (by decide) (fun c_13 => ?_) (fun c_13 => ?_)
    · have h := ifT c_13 h
      refine k_iconst C (v := (0 : Int32)) dX4_isPair_25 (by decide) ?_
      obtain rfl := Option.some.inj h
      exact kret_z C rfl nz0 dX4_isPair_26
    · have h := ifF c_13 h
      refine k_iload_n C dX4_isPair_16 1 rfl rfl ?_
      refine k_iload_n C dX4_isPair_17 2 rfl rfl ?_
      refine k_icmp_eq C (tgt := 25) dX4_isPair_18 (by decide) (fun c_18 => ?_) (fun c_18 => ?_)
      · have h := ifT c_18 h
        refine k_iconst C (v := (0 : Int32)) dX4_isPair_25 (by decide) ?_
        obtain rfl := Option.some.inj h
        exact kret_z C rfl nz0 dX4_isPair_26
      · have h := ifF c_18 h
        refine k_iconst C (v := (1 : Int32)) dX4_isPair_21 (by decide) ?_
        refine k_goto C (tgt := 26) dX4_isPair_22 (by decide) ?_
        obtain rfl := Option.some.inj h
        exact kret_z C rfl nz1 dX4_isPair_26
theorem c_M_isPair (l : Launch) (D : va_G) (cI : ClassId) (cL : ClassId) (cZ : ClassId) (sz : Nat) (a_this : Nat) (a_now : Nat) (a_kept : Nat) (a_trial : Nat) (a_shelves : Nat) (a_tape : Nat) (a_paths : Nat) (a_sounds : Nat) (a_volumes : Nat) (a_refusals : Nat) (a_now_stones : Nat) (a_now_kinds : Nat) (a_now_weights : Nat) (a_now_chances : Nat) (v1 : Int32) (v2 : Int32) (c_isKept : Int32) (c_now_width : Int32) (c_now_rain : Int32) (c_now_ear : Int32) (c_now_walkers : Int32) (c_now_seed : Int32) (x : Int32) (h : f_M_isPair v1 v2 c_now_walkers = some x) :
    Met l yX4_isPair (Cond.code yX4_isPair cX4_isPair 3 (some .boolean) :: WS) rm_M_isPair (kP D (tyG cI cL cZ) kTrue [.ref a_this, .int v1, .int v2] sz (cells_M_isPair cI cL cZ a_this a_now a_kept a_trial a_shelves a_tape a_paths a_sounds a_volumes a_refusals a_now_stones a_now_kinds a_now_weights a_now_chances c_isKept c_now_width c_now_rain c_now_ear c_now_walkers c_now_seed)) (kQi D (va_A (cells_M_isPair cI cL cZ a_this a_now a_kept a_trial a_shelves a_tape a_paths a_sounds a_volumes a_refusals a_now_stones a_now_kinds a_now_weights a_now_chances c_isKept c_now_width c_now_rain c_now_ear c_now_walkers c_now_seed) sz) (cells_M_isPair cI cL cZ a_this a_now a_kept a_trial a_shelves a_tape a_paths a_sounds a_volumes a_refusals a_now_stones a_now_kinds a_now_weights a_now_chances c_isKept c_now_width c_now_rain c_now_ear c_now_walkers c_now_seed) x) 0 0 (va_A (cells_M_isPair cI cL cZ a_this a_now a_kept a_trial a_shelves a_tape a_paths a_sounds a_volumes a_refusals a_now_stones a_now_kinds a_now_weights a_now_chances c_isKept c_now_width c_now_rain c_now_ear c_now_walkers c_now_seed) sz) :=
  kmet (by decide) (Nat.le_of_ble_eq_true rfl) rfl (fun p e s m below meth c C hE => s_M_isPair C h)
abbrev cells_M_isColumn (cI : ClassId) (cL : ClassId) (cZ : ClassId) (a_this : Nat) (a_now : Nat) (a_kept : Nat) (a_trial : Nat) (a_shelves : Nat) (a_tape : Nat) (a_paths : Nat) (a_sounds : Nat) (a_volumes : Nat) (a_refusals : Nat) (a_now_stones : Nat) (a_now_kinds : Nat) (a_now_weights : Nat) (a_now_chances : Nat) (c_isKept : Int32) (c_now_width : Int32) (c_now_rain : Int32) (c_now_ear : Int32) (c_now_walkers : Int32) (c_now_seed : Int32) : va_W := [(a_this, .inr (4, [.ref a_now, .ref a_kept, .ref a_trial, .ref a_shelves, .ref a_tape, .ref a_paths, .ref a_sounds, .ref a_volumes, .ref a_refusals, .int c_isKept])), (a_now, .inr (0, [.ref a_now_stones, .ref a_now_kinds, .ref a_now_weights, .ref a_now_chances, .int c_now_width, .int c_now_rain, .int c_now_ear, .int c_now_walkers, .int c_now_seed]))]
abbrev rm_M_isColumn : Room := { frames := 1, cells := 0, slots := 0, locals := 22 }
set_option maxRecDepth 100000 in
set_option maxHeartbeats 4000000 in
theorem s_M_isColumn (C : kC p l e rm_M_isColumn s m args below meth c D (tyG cI cL cZ) A 2 cX4_isColumn yX4_isColumn.cls (Cond.code yX4_isColumn cX4_isColumn 2 (some .boolean) :: WS) (some .boolean)) {a_this : Nat} {a_now : Nat} {a_kept : Nat} {a_trial : Nat} {a_shelves : Nat} {a_tape : Nat} {a_paths : Nat} {a_sounds : Nat} {a_volumes : Nat} {a_refusals : Nat} {a_now_stones : Nat} {a_now_kinds : Nat} {a_now_weights : Nat} {a_now_chances : Nat} {v1 : Int32} {c_isKept : Int32} {c_now_width : Int32} {c_now_rain : Int32} {c_now_ear : Int32} {c_now_walkers : Int32} {c_now_seed : Int32} {x : Int32} (h : f_M_isColumn v1 c_now_width = some x) :
    kW p l e rm_M_isColumn s m args below meth c D A 2 (cells_M_isColumn cI cL cZ a_this a_now a_kept a_trial a_shelves a_tape a_paths a_sounds a_volumes a_refusals a_now_stones a_now_kinds a_now_weights a_now_chances c_isKept c_now_width c_now_rain c_now_ear c_now_walkers c_now_seed) [(0, .ref a_this), (1, .int v1)] (MQ below (kQi D A (cells_M_isColumn cI cL cZ a_this a_now a_kept a_trial a_shelves a_tape a_paths a_sounds a_volumes a_refusals a_now_stones a_now_kinds a_now_weights a_now_chances c_isKept c_now_width c_now_rain c_now_ear c_now_walkers c_now_seed) x) args s 0 0 A) 0 [] := by
  unfold f_M_isColumn at h
  refine k_iload_n C dX4_isColumn_0 1 rfl rfl ?_
  refine k_iconst C (v := (0 : Int32)) dX4_isColumn_1 (by decide) ?_
  refine k_aload_n C dX4_isColumn_2 0 rfl rfl ?_
  refine k_get C (C0 := RX4) (T := TX4) (N := 10) (fun w h => List.mem_cons_of_mem _ (us_M w h)) 0 rfl rfl 0 (by decide) (List.mem_cons_of_mem _ wq_62) rfl rfl dX4_isColumn_3 ?_
  refine k_get C (C0 := RX0) (T := TX0) (N := 9) (fun w h => List.mem_cons_of_mem _ (us_D w h)) 1 rfl rfl 4 (by decide) (List.mem_cons_of_mem _ wq_119) rfl rfl dX4_isColumn_6 ?_
  refine k_iconst C (v := (1 : Int32)) dX4_isColumn_9 (by decide) ?_
  refine k_isub C dX4_isColumn_10 ?_
  obtain ⟨x1, hx1, h⟩ := bindE h
  refine kcallE_i C (r := x1) (fun H locs ls hP hD hS hF hz => krunS C (c_M_isWithin l D cI cL cZ H.size v1 (0 : Int32) (c_now_width - (1 : Int32)) x1 hx1) (va_cwS 3 C.2.2.2.2.1 (gS wq_1 wq_2 wq_3 wq_0) rfl rfl rfl (by decide +kernel) ⟨(Nat.le_of_ble_eq_true rfl), (Nat.le_of_ble_eq_true rfl)⟩) kEnv_T rfl rfl (Nat.le_of_ble_eq_true rfl) dX4_isColumn_11 hP hD hz) ?_
  obtain ⟨x2, hx2, h⟩ := bindE h
  obtain ⟨hz, rfl⟩ := zrE hx2
  obtain rfl := Option.some.inj h
  exact kret_z C rfl hz dX4_isColumn_14
theorem c_M_isColumn (l : Launch) (D : va_G) (cI : ClassId) (cL : ClassId) (cZ : ClassId) (sz : Nat) (a_this : Nat) (a_now : Nat) (a_kept : Nat) (a_trial : Nat) (a_shelves : Nat) (a_tape : Nat) (a_paths : Nat) (a_sounds : Nat) (a_volumes : Nat) (a_refusals : Nat) (a_now_stones : Nat) (a_now_kinds : Nat) (a_now_weights : Nat) (a_now_chances : Nat) (v1 : Int32) (c_isKept : Int32) (c_now_width : Int32) (c_now_rain : Int32) (c_now_ear : Int32) (c_now_walkers : Int32) (c_now_seed : Int32) (x : Int32) (h : f_M_isColumn v1 c_now_width = some x) :
    Met l yX4_isColumn (Cond.code yX4_isColumn cX4_isColumn 2 (some .boolean) :: WS) rm_M_isColumn (kP D (tyG cI cL cZ) kTrue [.ref a_this, .int v1] sz (cells_M_isColumn cI cL cZ a_this a_now a_kept a_trial a_shelves a_tape a_paths a_sounds a_volumes a_refusals a_now_stones a_now_kinds a_now_weights a_now_chances c_isKept c_now_width c_now_rain c_now_ear c_now_walkers c_now_seed)) (kQi D (va_A (cells_M_isColumn cI cL cZ a_this a_now a_kept a_trial a_shelves a_tape a_paths a_sounds a_volumes a_refusals a_now_stones a_now_kinds a_now_weights a_now_chances c_isKept c_now_width c_now_rain c_now_ear c_now_walkers c_now_seed) sz) (cells_M_isColumn cI cL cZ a_this a_now a_kept a_trial a_shelves a_tape a_paths a_sounds a_volumes a_refusals a_now_stones a_now_kinds a_now_weights a_now_chances c_isKept c_now_width c_now_rain c_now_ear c_now_walkers c_now_seed) x) 0 0 (va_A (cells_M_isColumn cI cL cZ a_this a_now a_kept a_trial a_shelves a_tape a_paths a_sounds a_volumes a_refusals a_now_stones a_now_kinds a_now_weights a_now_chances c_isKept c_now_width c_now_rain c_now_ear c_now_walkers c_now_seed) sz) :=
  kmet (by decide) (Nat.le_of_ble_eq_true rfl) rfl (fun p e s m below meth c C hE => s_M_isColumn C h)
abbrev cells_M_gap (cI : ClassId) (cL : ClassId) (cZ : ClassId) (a_this : Nat) (a_now : Nat) (a_kept : Nat) (a_trial : Nat) (a_shelves : Nat) (a_tape : Nat) (a_paths : Nat) (a_sounds : Nat) (a_volumes : Nat) (a_refusals : Nat) (a_now_stones : Nat) (a_now_kinds : Nat) (a_now_weights : Nat) (a_now_chances : Nat) (c_isKept : Int32) (c_now_width : Int32) (c_now_rain : Int32) (c_now_ear : Int32) (c_now_walkers : Int32) (c_now_seed : Int32) (c_now_stones : (Nat → Int32)) (c_now_kinds : (Nat → Int32)) (c_now_weights : (Nat → Int32)) (c_refusals : (Nat → Int32)) : va_W := [(a_this, .inr (4, [.ref a_now, .ref a_kept, .ref a_trial, .ref a_shelves, .ref a_tape, .ref a_paths, .ref a_sounds, .ref a_volumes, .ref a_refusals, .int c_isKept])), (a_now, .inr (0, [.ref a_now_stones, .ref a_now_kinds, .ref a_now_weights, .ref a_now_chances, .int c_now_width, .int c_now_rain, .int c_now_ear, .int c_now_walkers, .int c_now_seed])), (a_now_stones, .inl (cI, 36, .inl c_now_stones)), (a_now_kinds, .inl (cI, 8, .inl c_now_kinds)), (a_now_weights, .inl (cI, 8, .inl c_now_weights)), (a_refusals, .inl (cI, 5, .inl c_refusals))]
abbrev rm_M_gap : Room := { frames := 4, cells := 0, slots := 0, locals := 104 }
set_option maxRecDepth 100000 in
set_option maxHeartbeats 4000000 in
theorem s_M_gap_j17 (C : kC p l e rm_M_gap s m args below meth c D (tyG cI cL cZ) A 6 cX4_gap yX4_gap.cls (Cond.code yX4_gap cX4_gap 6 (some .int) :: WS) (some .int)) {X : kX} (hE : kEs X A s) {a_this : Nat} {a_now : Nat} {a_kept : Nat} {a_trial : Nat} {a_shelves : Nat} {a_tape : Nat} {a_paths : Nat} {a_sounds : Nat} {a_volumes : Nat} {a_refusals : Nat} {a_now_stones : Nat} {a_now_kinds : Nat} {a_now_weights : Nat} {a_now_chances : Nat} {c_isKept : Int32} {c_now_width : Int32} {c_now_rain : Int32} {c_now_ear : Int32} {c_now_walkers : Int32} {c_now_seed : Int32} {c_now_stones : (Nat → Int32)} {c_now_kinds : (Nat → Int32)} {c_now_weights : (Nat → Int32)} {c_refusals : (Nat → Int32)} {x : (Int32 × (Nat → Int32))} (h : f_M_gap_j17 c_refusals = some x) :
    kW p l e rm_M_gap s m args below meth c D A 6 (cells_M_gap cI cL cZ a_this a_now a_kept a_trial a_shelves a_tape a_paths a_sounds a_volumes a_refusals a_now_stones a_now_kinds a_now_weights a_now_chances c_isKept c_now_width c_now_rain c_now_ear c_now_walkers c_now_seed c_now_stones c_now_kinds c_now_weights c_refusals) [(0, .ref a_this)] (MQ below (kQi D A (cells_M_gap cI cL cZ a_this a_now a_kept a_trial a_shelves a_tape a_paths a_sounds a_volumes a_refusals a_now_stones a_now_kinds a_now_weights a_now_chances c_isKept c_now_width c_now_rain c_now_ear c_now_walkers c_now_seed c_now_stones c_now_kinds c_now_weights x.2) x.1) args s 0 0 A) 17 [] := by
  unfold f_M_gap_j17 at h
  refine k_aload_n C dX4_gap_17 0 rfl rfl ?_
  refine k_bipush C (v := (-2 : Int32)) dX4_gap_18 (by decide) ?_
  obtain ⟨x2, hx2, h⟩ := bindE h
  refine kcallU_i C (wc := (cells_M_refuse cI cL cZ a_this a_now a_kept a_trial a_shelves a_tape a_paths a_sounds a_volumes a_refusals c_isKept c_refusals)) (w1 := (cells_M_refuse cI cL cZ a_this a_now a_kept a_trial a_shelves a_tape a_paths a_sounds a_volumes a_refusals c_isKept x2.2)) (ws' := (cells_M_gap cI cL cZ a_this a_now a_kept a_trial a_shelves a_tape a_paths a_sounds a_volumes a_refusals a_now_stones a_now_kinds a_now_weights a_now_chances c_isKept c_now_width c_now_rain c_now_ear c_now_walkers c_now_seed c_now_stones c_now_kinds c_now_weights x2.2)) (r := x2.1) [0, 5] (fun H locs ls hP hD hS hF hz => krunV C (q0 := 0) (ci := 4) (c_M_refuse l D cI cL cZ H.size a_this a_now a_kept a_trial a_shelves a_tape a_paths a_sounds a_volumes a_refusals (-2 : Int32) c_isKept c_refusals x2 hx2) (cwV 1 C.2.2.2.2.1 (gV wq_12 wq_13 wq_14 wq_3 wq_11) rfl rfl rfl (by decide +kernel) ⟨(Nat.le_of_ble_eq_true rfl), (Nat.le_of_ble_eq_true rfl)⟩) rfl rfl kEnv_T rfl rfl (Nat.le_of_ble_eq_true rfl) dX4_gap_20 hP hD hz) rfl (by decide) rfl rfl ?_
  obtain rfl := Option.some.inj h
  exact kret_i C rfl dX4_gap_23
set_option maxRecDepth 100000 in
set_option maxHeartbeats 4000000 in
theorem s_M_gap_b27 (C : kC p l e rm_M_gap s m args below meth c D (tyG cI cL cZ) A 6 cX4_gap yX4_gap.cls (Cond.code yX4_gap cX4_gap 6 (some .int) :: WS) (some .int)) {X : kX} (hE : kEs X A s) {a_this : Nat} {a_now : Nat} {a_kept : Nat} {a_trial : Nat} {a_shelves : Nat} {a_tape : Nat} {a_paths : Nat} {a_sounds : Nat} {a_volumes : Nat} {a_refusals : Nat} {a_now_stones : Nat} {a_now_kinds : Nat} {a_now_weights : Nat} {a_now_chances : Nat} {v1 : Int32} {v2 : Int32} {v3 : Int32} {v4 : Int32} {c_isKept : Int32} {c_now_width : Int32} {c_now_rain : Int32} {c_now_ear : Int32} {c_now_walkers : Int32} {c_now_seed : Int32} {c_now_stones : (Nat → Int32)} {c_now_kinds : (Nat → Int32)} {c_now_weights : (Nat → Int32)} {c_refusals : (Nat → Int32)} {x : (Int32 ⊕ (Int32 ⊕ Unit))} (h : f_M_gap_b27 v1 v2 v3 c_now_width c_now_rain c_now_stones c_now_kinds c_now_weights v4 = some x)
    (kc : ∀ s', x = .inl s' → kW p l e rm_M_gap s m args below meth c D A 6 (cells_M_gap cI cL cZ a_this a_now a_kept a_trial a_shelves a_tape a_paths a_sounds a_volumes a_refusals a_now_stones a_now_kinds a_now_weights a_now_chances c_isKept c_now_width c_now_rain c_now_ear c_now_walkers c_now_seed c_now_stones c_now_kinds c_now_weights c_refusals) [(0, .ref a_this), (1, .int v1), (2, .int v2), (3, .int v3), (4, .int s')] Q 27 [])
    (k0 : ∀ r, x = .inr (.inl r) → kW p l e rm_M_gap s m args below meth c D A 6 (cells_M_gap cI cL cZ a_this a_now a_kept a_trial a_shelves a_tape a_paths a_sounds a_volumes a_refusals a_now_stones a_now_kinds a_now_weights a_now_chances c_isKept c_now_width c_now_rain c_now_ear c_now_walkers c_now_seed c_now_stones c_now_kinds c_now_weights c_refusals) [(4, .int r)] Q 74 [])
    (k1 : ∀ r, x = .inr (.inr r) → kW p l e rm_M_gap s m args below meth c D A 6 (cells_M_gap cI cL cZ a_this a_now a_kept a_trial a_shelves a_tape a_paths a_sounds a_volumes a_refusals a_now_stones a_now_kinds a_now_weights a_now_chances c_isKept c_now_width c_now_rain c_now_ear c_now_walkers c_now_seed c_now_stones c_now_kinds c_now_weights c_refusals) [] Q 83 []) :
    kW p l e rm_M_gap s m args below meth c D A 6 (cells_M_gap cI cL cZ a_this a_now a_kept a_trial a_shelves a_tape a_paths a_sounds a_volumes a_refusals a_now_stones a_now_kinds a_now_weights a_now_chances c_isKept c_now_width c_now_rain c_now_ear c_now_walkers c_now_seed c_now_stones c_now_kinds c_now_weights c_refusals) [(0, .ref a_this), (1, .int v1), (2, .int v2), (3, .int v3), (4, .int v4)] Q 27 [] := by
  unfold f_M_gap_b27 at h
  refine k_iload C dX4_gap_27 4 rfl ?_
  refine k_aload_n C dX4_gap_29 0 rfl rfl ?_
  refine k_get C (C0 := RX4) (T := TX4) (N := 10) (fun w h => List.mem_cons_of_mem _ (us_M w h)) 0 rfl rfl 0 (by decide) (List.mem_cons_of_mem _ wq_62) rfl rfl dX4_gap_30 ?_
  refine k_get C (C0 := RX0) (T := TX0) (N := 9) (fun w h => List.mem_cons_of_mem _ (us_D w h)) 1 rfl rfl 4 (by decide) (List.mem_cons_of_mem _ wq_119) rfl rfl dX4_gap_33 ?_
  refine k_icmp_ge C (tgt := 83) dX4_gap_36 (by decide) (fun c_36 => ?_) (fun c_36 => ?_)
  · have h := ifT c_36 h
    refine k_lv (lv' := []) [] rfl ?_
    exact k1 _ (Option.some.inj h).symm
  · have h := ifF c_36 h
    refine k_aload_n C dX4_gap_39 0 rfl rfl ?_
    refine k_get C (C0 := RX4) (T := TX4) (N := 10) (fun w h => List.mem_cons_of_mem _ (us_M w h)) 0 rfl rfl 0 (by decide) (List.mem_cons_of_mem _ wq_62) rfl rfl dX4_gap_40 ?_
    refine k_iload C dX4_gap_43 4 rfl ?_
    refine k_iload_n C dX4_gap_45 3 rfl rfl ?_
    obtain ⟨x4, hx4, h⟩ := bindE h
    refine kcallR_i C (wc := (cells_D_cellAt cI cL cZ a_now a_now_stones a_now_kinds a_now_weights a_now_chances c_now_width c_now_rain c_now_ear c_now_walkers c_now_seed)) (r := x4) [1] (fun H locs ls hP hD hS hF hz => krunV C (q0 := 0) (ci := 0) (c_D_cellAt l D cI cL cZ H.size a_now a_now_stones a_now_kinds a_now_weights a_now_chances v4 v3 c_now_width c_now_rain c_now_ear c_now_walkers c_now_seed x4 hx4) (cwV 2 C.2.2.2.2.1 (gV wq_399 wq_400 wq_401 wq_81 wq_398) rfl rfl rfl (by decide +kernel) ⟨(Nat.le_of_ble_eq_true rfl), (Nat.le_of_ble_eq_true rfl)⟩) rfl rfl kEnv_T rfl rfl (Nat.le_of_ble_eq_true rfl) dX4_gap_46 hP hD hz) rfl (by decide) ?_
    refine k_istore C (lv' := [(5, .int x4), (0, .ref a_this), (1, .int v1), (2, .int v2), (3, .int v3), (4, .int v4)]) dX4_gap_49 (by decide) rfl ?_
    refine k_aload_n C dX4_gap_51 1 rfl rfl ?_
    refine k_get C (C0 := RX4) (T := TX4) (N := 10) (fun w h => List.mem_cons_of_mem _ (us_M w h)) 0 rfl rfl 0 (by decide) (List.mem_cons_of_mem _ wq_62) rfl rfl dX4_gap_52 ?_
    refine k_iload_n C dX4_gap_55 2 rfl rfl ?_
    refine k_iload C dX4_gap_56 0 rfl ?_
    obtain ⟨x5, hx5, h⟩ := bindE h
    refine kcallR_i C (wc := (cells_D_stepOn cI cL cZ a_now a_now_stones a_now_kinds a_now_weights a_now_chances c_now_width c_now_rain c_now_ear c_now_walkers c_now_seed c_now_stones c_now_kinds c_now_weights)) (r := x5) [1, 2, 3, 4] (fun H locs ls hP hD hS hF hz => krunV C (q0 := 0) (ci := 0) (c_D_stepOn l D cI cL cZ X H.size a_now a_now_stones a_now_kinds a_now_weights a_now_chances v1 x4 c_now_width c_now_rain c_now_ear c_now_walkers c_now_seed c_now_stones c_now_kinds c_now_weights x5 hx5) (cwV 2 C.2.2.2.2.1 (gV wq_257 wq_258 wq_259 wq_81 wq_256) rfl rfl rfl (by decide +kernel) ⟨(Nat.le_of_ble_eq_true rfl), (Nat.le_of_ble_eq_true rfl)⟩) rfl rfl (kEs_call hE hS hF) rfl rfl (Nat.le_of_ble_eq_true rfl) dX4_gap_58 hP hD hz) rfl (by decide) ?_
    refine k_aload_n C dX4_gap_61 1 rfl rfl ?_
    refine k_get C (C0 := RX4) (T := TX4) (N := 10) (fun w h => List.mem_cons_of_mem _ (us_M w h)) 0 rfl rfl 0 (by decide) (List.mem_cons_of_mem _ wq_62) rfl rfl dX4_gap_62 ?_
    refine k_iload_n C dX4_gap_65 3 rfl rfl ?_
    refine k_iload C dX4_gap_66 0 rfl ?_
    obtain ⟨x6, hx6, h⟩ := bindE h
    refine kcallR_i C (wc := (cells_D_stepOn cI cL cZ a_now a_now_stones a_now_kinds a_now_weights a_now_chances c_now_width c_now_rain c_now_ear c_now_walkers c_now_seed c_now_stones c_now_kinds c_now_weights)) (r := x6) [1, 2, 3, 4] (fun H locs ls hP hD hS hF hz => krunV C (q0 := 0) (ci := 0) (c_D_stepOn l D cI cL cZ X H.size a_now a_now_stones a_now_kinds a_now_weights a_now_chances v2 x4 c_now_width c_now_rain c_now_ear c_now_walkers c_now_seed c_now_stones c_now_kinds c_now_weights x6 hx6) (cwV 2 C.2.2.2.2.1 (gV wq_257 wq_258 wq_259 wq_81 wq_256) rfl rfl rfl (by decide +kernel) ⟨(Nat.le_of_ble_eq_true rfl), (Nat.le_of_ble_eq_true rfl)⟩) rfl rfl (kEs_call hE hS hF) rfl rfl (Nat.le_of_ble_eq_true rfl) dX4_gap_68 hP hD hz) rfl (by decide) ?_
    refine k_icmp_eq C (tgt := 77) dX4_gap_71 (by decide) (fun c_71 => ?_) (fun c_71 => ?_)
    · have h := ifT c_71 h
      refine k_iinc C (v := (v4 + (1 : Int32))) (lv' := [(4, .int (v4 + (1 : Int32))), (5, .int x4), (0, .ref a_this), (1, .int v1), (2, .int v2), (3, .int v3)]) dX4_gap_77 5 rfl rfl (by decide) rfl ?_
      refine k_goto C (tgt := 27) dX4_gap_80 (by decide) ?_
      refine k_lv (lv' := [(0, .ref a_this), (1, .int v1), (2, .int v2), (3, .int v3), (4, .int (v4 + (1 : Int32)))]) [2, 3, 4, 5, 0] rfl ?_
      exact kc _ (Option.some.inj h).symm
    · have h := ifF c_71 h
      refine k_lv (lv' := [(4, .int v4)]) [5] rfl ?_
      exact k0 _ (Option.some.inj h).symm
set_option maxRecDepth 100000 in
set_option maxHeartbeats 4000000 in
theorem s_M_gap_l27 (C : kC p l e rm_M_gap s m args below meth c D (tyG cI cL cZ) A 6 cX4_gap yX4_gap.cls (Cond.code yX4_gap cX4_gap 6 (some .int) :: WS) (some .int)) {X : kX} (hE : kEs X A s) {a_this : Nat} {a_now : Nat} {a_kept : Nat} {a_trial : Nat} {a_shelves : Nat} {a_tape : Nat} {a_paths : Nat} {a_sounds : Nat} {a_volumes : Nat} {a_refusals : Nat} {a_now_stones : Nat} {a_now_kinds : Nat} {a_now_weights : Nat} {a_now_chances : Nat} {v1 : Int32} {v2 : Int32} {v3 : Int32} {v4 : Int32} {c_isKept : Int32} {c_now_width : Int32} {c_now_rain : Int32} {c_now_ear : Int32} {c_now_walkers : Int32} {c_now_seed : Int32} {c_now_stones : (Nat → Int32)} {c_now_kinds : (Nat → Int32)} {c_now_weights : (Nat → Int32)} {c_refusals : (Nat → Int32)} {x : (Int32 ⊕ Unit)} (h : f_M_gap_l27 v1 v2 v3 c_now_width c_now_rain c_now_stones c_now_kinds c_now_weights v4 = some x)
    (k0 : ∀ r, x = (.inl r) → kW p l e rm_M_gap s m args below meth c D A 6 (cells_M_gap cI cL cZ a_this a_now a_kept a_trial a_shelves a_tape a_paths a_sounds a_volumes a_refusals a_now_stones a_now_kinds a_now_weights a_now_chances c_isKept c_now_width c_now_rain c_now_ear c_now_walkers c_now_seed c_now_stones c_now_kinds c_now_weights c_refusals) [(4, .int r)] Q 74 [])
    (k1 : ∀ r, x = (.inr r) → kW p l e rm_M_gap s m args below meth c D A 6 (cells_M_gap cI cL cZ a_this a_now a_kept a_trial a_shelves a_tape a_paths a_sounds a_volumes a_refusals a_now_stones a_now_kinds a_now_weights a_now_chances c_isKept c_now_width c_now_rain c_now_ear c_now_walkers c_now_seed c_now_stones c_now_kinds c_now_weights c_refusals) [] Q 83 []) :
    kW p l e rm_M_gap s m args below meth c D A 6 (cells_M_gap cI cL cZ a_this a_now a_kept a_trial a_shelves a_tape a_paths a_sounds a_volumes a_refusals a_now_stones a_now_kinds a_now_weights a_now_chances c_isKept c_now_width c_now_rain c_now_ear c_now_walkers c_now_seed c_now_stones c_now_kinds c_now_weights c_refusals) [(0, .ref a_this), (1, .int v1), (2, .int v2), (3, .int v3), (4, .int v4)] Q 27 [] := by
  unfold f_M_gap_l27 at h
  exact iter_W (body := fun s => f_M_gap_b27 v1 v2 v3 c_now_width c_now_rain c_now_stones c_now_kinds c_now_weights s) (r := x) (T := fun sg => kW p l e rm_M_gap s m args below meth c D A 6 (cells_M_gap cI cL cZ a_this a_now a_kept a_trial a_shelves a_tape a_paths a_sounds a_volumes a_refusals a_now_stones a_now_kinds a_now_weights a_now_chances c_isKept c_now_width c_now_rain c_now_ear c_now_walkers c_now_seed c_now_stones c_now_kinds c_now_weights c_refusals) [(0, .ref a_this), (1, .int v1), (2, .int v2), (3, .int v3), (4, .int sg)] Q 27 []) (fun sg y hy hc _ hr => s_M_gap_b27 C hE (v1 := v1) (v2 := v2) (v3 := v3) (v4 := sg) (c_isKept := c_isKept) (c_now_width := c_now_width) (c_now_rain := c_now_rain) (c_now_ear := c_now_ear) (c_now_walkers := c_now_walkers) (c_now_seed := c_now_seed) (c_now_stones := c_now_stones) (c_now_kinds := c_now_kinds) (c_now_weights := c_now_weights) (c_refusals := c_refusals) (x := y) hy hc (fun r e => k0 r (hr _ e).symm) (fun r e => k1 r (hr _ e).symm)) FUEL v4 h
set_option maxRecDepth 100000 in
set_option maxHeartbeats 4000000 in
theorem s_M_gap (C : kC p l e rm_M_gap s m args below meth c D (tyG cI cL cZ) A 6 cX4_gap yX4_gap.cls (Cond.code yX4_gap cX4_gap 6 (some .int) :: WS) (some .int)) {X : kX} (hE : kEs X A s) {a_this : Nat} {a_now : Nat} {a_kept : Nat} {a_trial : Nat} {a_shelves : Nat} {a_tape : Nat} {a_paths : Nat} {a_sounds : Nat} {a_volumes : Nat} {a_refusals : Nat} {a_now_stones : Nat} {a_now_kinds : Nat} {a_now_weights : Nat} {a_now_chances : Nat} {v1 : Int32} {v2 : Int32} {v3 : Int32} {c_isKept : Int32} {c_now_width : Int32} {c_now_rain : Int32} {c_now_ear : Int32} {c_now_walkers : Int32} {c_now_seed : Int32} {c_now_stones : (Nat → Int32)} {c_now_kinds : (Nat → Int32)} {c_now_weights : (Nat → Int32)} {c_refusals : (Nat → Int32)} {x : (Int32 × (Nat → Int32))} (h : f_M_gap v1 v2 v3 c_now_width c_now_rain c_now_walkers c_now_stones c_now_kinds c_now_weights c_refusals = some x) :
    kW p l e rm_M_gap s m args below meth c D A 6 (cells_M_gap cI cL cZ a_this a_now a_kept a_trial a_shelves a_tape a_paths a_sounds a_volumes a_refusals a_now_stones a_now_kinds a_now_weights a_now_chances c_isKept c_now_width c_now_rain c_now_ear c_now_walkers c_now_seed c_now_stones c_now_kinds c_now_weights c_refusals) [(0, .ref a_this), (1, .int v1), (2, .int v2), (3, .int v3)] (MQ below (kQi D A (cells_M_gap cI cL cZ a_this a_now a_kept a_trial a_shelves a_tape a_paths a_sounds a_volumes a_refusals a_now_stones a_now_kinds a_now_weights a_now_chances c_isKept c_now_width c_now_rain c_now_ear c_now_walkers c_now_seed c_now_stones c_now_kinds c_now_weights x.2) x.1) args s 0 0 A) 0 [] := by
  unfold f_M_gap at h
  refine k_aload_n C dX4_gap_0 0 rfl rfl ?_
  refine k_iload_n C dX4_gap_1 1 rfl rfl ?_
  refine k_iload_n C dX4_gap_2 2 rfl rfl ?_
  obtain ⟨x1, hx1, h⟩ := bindE h
  refine kcallR_i C (wc := (cells_M_isPair cI cL cZ a_this a_now a_kept a_trial a_shelves a_tape a_paths a_sounds a_volumes a_refusals a_now_stones a_now_kinds a_now_weights a_now_chances c_isKept c_now_width c_now_rain c_now_ear c_now_walkers c_now_seed)) (r := x1) [0, 1] (fun H locs ls hP hD hS hF hz => krunV C (q0 := 0) (ci := 4) (c_M_isPair l D cI cL cZ H.size a_this a_now a_kept a_trial a_shelves a_tape a_paths a_sounds a_volumes a_refusals a_now_stones a_now_kinds a_now_weights a_now_chances v1 v2 c_isKept c_now_width c_now_rain c_now_ear c_now_walkers c_now_seed x1 hx1) (cwV 2 C.2.2.2.2.1 (gV wq_408 wq_409 wq_410 wq_3 wq_407) rfl rfl rfl (by decide +kernel) ⟨(Nat.le_of_ble_eq_true rfl), (Nat.le_of_ble_eq_true rfl)⟩) rfl rfl kEnv_T rfl rfl (Nat.le_of_ble_eq_true rfl) dX4_gap_3 hP hD hz) rfl (by decide) ?_
  refine k_if_eq C (tgt := 17) dX4_gap_6 (by decide) (fun c_6 => ?_) (fun c_6 => ?_)
  · have h := ifT c_6 h
    refine k_lv (lv' := [(0, .ref a_this)]) [0] rfl ?_
    exact s_M_gap_j17 C hE h
  · have h := ifF c_6 h
    refine k_aload_n C dX4_gap_9 0 rfl rfl ?_
    refine k_iload_n C dX4_gap_10 3 rfl rfl ?_
    obtain ⟨x3, hx3, h⟩ := bindE h
    refine kcallR_i C (wc := (cells_M_isColumn cI cL cZ a_this a_now a_kept a_trial a_shelves a_tape a_paths a_sounds a_volumes a_refusals a_now_stones a_now_kinds a_now_weights a_now_chances c_isKept c_now_width c_now_rain c_now_ear c_now_walkers c_now_seed)) (r := x3) [0, 1] (fun H locs ls hP hD hS hF hz => krunV C (q0 := 0) (ci := 4) (c_M_isColumn l D cI cL cZ H.size a_this a_now a_kept a_trial a_shelves a_tape a_paths a_sounds a_volumes a_refusals a_now_stones a_now_kinds a_now_weights a_now_chances v3 c_isKept c_now_width c_now_rain c_now_ear c_now_walkers c_now_seed x3 hx3) (cwV 1 C.2.2.2.2.1 (gV wq_412 wq_413 wq_414 wq_3 wq_411) rfl rfl rfl (by decide +kernel) ⟨(Nat.le_of_ble_eq_true rfl), (Nat.le_of_ble_eq_true rfl)⟩) rfl rfl kEnv_T rfl rfl (Nat.le_of_ble_eq_true rfl) dX4_gap_11 hP hD hz) rfl (by decide) ?_
    refine k_if_ne C (tgt := 24) dX4_gap_14 (by decide) (fun c_14 => ?_) (fun c_14 => ?_)
    · have h := ifF c_14 h
      refine k_iconst C (v := (0 : Int32)) dX4_gap_24 (by decide) ?_
      refine k_istore C (lv' := [(4, .int (0 : Int32)), (0, .ref a_this), (1, .int v1), (2, .int v2), (3, .int v3)]) dX4_gap_25 (by decide) rfl ?_
      obtain ⟨x7, hx7, h⟩ := bindE h
      refine k_lv (lv' := [(0, .ref a_this), (1, .int v1), (2, .int v2), (3, .int v3), (4, .int (0 : Int32))]) [1, 2, 3, 4, 0] rfl ?_
      refine s_M_gap_l27 C hE hx7 ?_ ?_
      · intro x8 ex8
        subst ex8
        have h := sumL h
        refine k_iload C dX4_gap_74 0 rfl ?_
        obtain rfl := Option.some.inj h
        exact kret_i C rfl dX4_gap_76
      · intro x9 ex9
        subst ex9
        have h := sumR h
        refine k_iconst C (v := (-1 : Int32)) dX4_gap_83 (by decide) ?_
        obtain rfl := Option.some.inj h
        exact kret_i C rfl dX4_gap_84
    · have h := ifT c_14 h
      refine k_lv (lv' := [(0, .ref a_this)]) [0] rfl ?_
      exact s_M_gap_j17 C hE h
theorem c_M_gap (l : Launch) (D : va_G) (cI : ClassId) (cL : ClassId) (cZ : ClassId) (X : kX) (sz : Nat) (a_this : Nat) (a_now : Nat) (a_kept : Nat) (a_trial : Nat) (a_shelves : Nat) (a_tape : Nat) (a_paths : Nat) (a_sounds : Nat) (a_volumes : Nat) (a_refusals : Nat) (a_now_stones : Nat) (a_now_kinds : Nat) (a_now_weights : Nat) (a_now_chances : Nat) (v1 : Int32) (v2 : Int32) (v3 : Int32) (c_isKept : Int32) (c_now_width : Int32) (c_now_rain : Int32) (c_now_ear : Int32) (c_now_walkers : Int32) (c_now_seed : Int32) (c_now_stones : (Nat → Int32)) (c_now_kinds : (Nat → Int32)) (c_now_weights : (Nat → Int32)) (c_refusals : (Nat → Int32)) (x : (Int32 × (Nat → Int32))) (h : f_M_gap v1 v2 v3 c_now_width c_now_rain c_now_walkers c_now_stones c_now_kinds c_now_weights c_refusals = some x) :
    Met l yX4_gap (Cond.code yX4_gap cX4_gap 6 (some .int) :: WS) rm_M_gap (kP D (tyG cI cL cZ) (kEs X (va_A (cells_M_gap cI cL cZ a_this a_now a_kept a_trial a_shelves a_tape a_paths a_sounds a_volumes a_refusals a_now_stones a_now_kinds a_now_weights a_now_chances c_isKept c_now_width c_now_rain c_now_ear c_now_walkers c_now_seed c_now_stones c_now_kinds c_now_weights c_refusals) sz)) [.ref a_this, .int v1, .int v2, .int v3] sz (cells_M_gap cI cL cZ a_this a_now a_kept a_trial a_shelves a_tape a_paths a_sounds a_volumes a_refusals a_now_stones a_now_kinds a_now_weights a_now_chances c_isKept c_now_width c_now_rain c_now_ear c_now_walkers c_now_seed c_now_stones c_now_kinds c_now_weights c_refusals)) (kQi D (va_A (cells_M_gap cI cL cZ a_this a_now a_kept a_trial a_shelves a_tape a_paths a_sounds a_volumes a_refusals a_now_stones a_now_kinds a_now_weights a_now_chances c_isKept c_now_width c_now_rain c_now_ear c_now_walkers c_now_seed c_now_stones c_now_kinds c_now_weights c_refusals) sz) (cells_M_gap cI cL cZ a_this a_now a_kept a_trial a_shelves a_tape a_paths a_sounds a_volumes a_refusals a_now_stones a_now_kinds a_now_weights a_now_chances c_isKept c_now_width c_now_rain c_now_ear c_now_walkers c_now_seed c_now_stones c_now_kinds c_now_weights x.2) x.1) 0 0 (va_A (cells_M_gap cI cL cZ a_this a_now a_kept a_trial a_shelves a_tape a_paths a_sounds a_volumes a_refusals a_now_stones a_now_kinds a_now_weights a_now_chances c_isKept c_now_width c_now_rain c_now_ear c_now_walkers c_now_seed c_now_stones c_now_kinds c_now_weights c_refusals) sz) :=
  kmet (by decide) (Nat.le_of_ble_eq_true rfl) rfl (fun p e s m below meth c C hE => s_M_gap C hE h)
abbrev cells_D_soundUnder (cI : ClassId) (cL : ClassId) (cZ : ClassId) (a_this : Nat) (a_stones : Nat) (a_kinds : Nat) (a_weights : Nat) (a_chances : Nat) (c_width : Int32) (c_rain : Int32) (c_ear : Int32) (c_walkers : Int32) (c_seed : Int32) (c_stones : (Nat → Int32)) (c_kinds : (Nat → Int32)) (c_weights : (Nat → Int32)) : va_W := [(a_this, .inr (0, [.ref a_stones, .ref a_kinds, .ref a_weights, .ref a_chances, .int c_width, .int c_rain, .int c_ear, .int c_walkers, .int c_seed])), (a_stones, .inl (cI, 36, .inl c_stones)), (a_kinds, .inl (cI, 8, .inl c_kinds)), (a_weights, .inl (cI, 8, .inl c_weights))]
abbrev rm_D_soundUnder : Room := { frames := 2, cells := 0, slots := 0, locals := 58 }
set_option maxRecDepth 100000 in
set_option maxHeartbeats 4000000 in
theorem s_D_soundUnder_b20 (C : kC p l e rm_D_soundUnder s m args below meth c D (tyG cI cL cZ) A 9 cX0_soundUnder yX0_soundUnder.cls (Cond.code yX0_soundUnder cX0_soundUnder 9 (some .long) :: WS) (some .long)) {X : kX} (hE : kEs X A s) {a_this : Nat} {a_stones : Nat} {a_kinds : Nat} {a_weights : Nat} {a_chances : Nat} {v2 : Int32} {v3 : Int32} {v4 : Int32} {v5 : Int32} {v6 : Int64} {v8 : Int32} {c_width : Int32} {c_rain : Int32} {c_ear : Int32} {c_walkers : Int32} {c_seed : Int32} {c_stones : (Nat → Int32)} {c_kinds : (Nat → Int32)} {c_weights : (Nat → Int32)} {x : ((Int64 × Int32) ⊕ Int64)} (h : f_D_soundUnder_b20 v2 v3 v4 v5 c_width c_stones v6 v8 = some x)
    (kc : ∀ s', x = .inl s' → kW p l e rm_D_soundUnder s m args below meth c D A 9 (cells_D_soundUnder cI cL cZ a_this a_stones a_kinds a_weights a_chances c_width c_rain c_ear c_walkers c_seed c_stones c_kinds c_weights) [(0, .ref a_this), (2, .int v2), (3, .int v3), (4, .int v4), (5, .int v5), (6, .long s'.1), (8, .int s'.2)] Q 20 [])
    (k0 : ∀ r, x = .inr r → kW p l e rm_D_soundUnder s m args below meth c D A 9 (cells_D_soundUnder cI cL cZ a_this a_stones a_kinds a_weights a_chances c_width c_rain c_ear c_walkers c_seed c_stones c_kinds c_weights) [(6, .long r)] Q 65 []) :
    kW p l e rm_D_soundUnder s m args below meth c D A 9 (cells_D_soundUnder cI cL cZ a_this a_stones a_kinds a_weights a_chances c_width c_rain c_ear c_walkers c_seed c_stones c_kinds c_weights) [(0, .ref a_this), (2, .int v2), (3, .int v3), (4, .int v4), (5, .int v5), (6, .long v6), (8, .int v8)] Q 20 [] := by
  unfold f_D_soundUnder_b20 at h
  refine k_iload C dX0_soundUnder_20 6 rfl ?_
  refine k_aload_n C dX0_soundUnder_22 0 rfl rfl ?_
  refine k_get C (C0 := RX0) (T := TX0) (N := 9) (fun w h => List.mem_cons_of_mem _ (us_D w h)) 0 rfl rfl 4 (by decide) (List.mem_cons_of_mem _ wq_118) rfl rfl dX0_soundUnder_23 ?_
  refine k_icmp_ge C (tgt := 65) dX0_soundUnder_26 (by decide) (fun c_26 => ?_) (fun c_26 => ?_)
  · have h := ifT c_26 h
    refine k_lv (lv' := [(6, .long v6)]) [5] rfl ?_
    exact k0 _ (Option.some.inj h).symm
  · have h := ifF c_26 h
    refine k_lload C dX0_soundUnder_29 5 rfl ?_
    refine k_bipush C (v := (6 : Int32)) dX0_soundUnder_31 (by decide) ?_
    refine k_lshl C dX0_soundUnder_33 ?_
    refine k_iload C dX0_soundUnder_34 3 rfl ?_
    refine k_iload C dX0_soundUnder_36 4 rfl ?_
    refine k_aload_n C dX0_soundUnder_38 0 rfl rfl ?_
    refine k_aload_n C dX0_soundUnder_39 0 rfl rfl ?_
    refine k_iload C dX0_soundUnder_40 6 rfl ?_
    refine k_iload_n C dX0_soundUnder_42 1 rfl rfl ?_
    obtain ⟨x3, hx3, h⟩ := bindE h
    refine kcallR_i C (wc := (cells_D_cellAt cI cL cZ a_this a_stones a_kinds a_weights a_chances c_width c_rain c_ear c_walkers c_seed)) (r := x3) [0] (fun H locs ls hP hD hS hF hz => krunV C (q0 := 0) (ci := 0) (c_D_cellAt l D cI cL cZ H.size a_this a_stones a_kinds a_weights a_chances v8 v2 c_width c_rain c_ear c_walkers c_seed x3 hx3) (cwV 2 C.2.2.2.2.1 (gV wq_415 wq_400 wq_401 wq_81 wq_398) rfl rfl rfl (by decide +kernel) ⟨(Nat.le_of_ble_eq_true rfl), (Nat.le_of_ble_eq_true rfl)⟩) rfl rfl kEnv_T rfl rfl (Nat.le_of_ble_eq_true rfl) dX0_soundUnder_43 hP hD hz) rfl (by decide) ?_
    refine k_iload_n C dX0_soundUnder_46 2 rfl rfl ?_
    obtain ⟨x4, hx4, h⟩ := bindE h
    refine kcallR_i C (wc := (cells_D_wetOn cI cL cZ a_this a_stones a_kinds a_weights a_chances c_width c_rain c_ear c_walkers c_seed c_stones)) (r := x4) [0, 1] (fun H locs ls hP hD hS hF hz => krunV C (q0 := 0) (ci := 0) (c_D_wetOn l D cI cL cZ H.size a_this a_stones a_kinds a_weights a_chances x3 v3 c_width c_rain c_ear c_walkers c_seed c_stones x4 hx4) (cwV 2 C.2.2.2.2.1 (gV wq_95 wq_96 wq_97 wq_81 wq_94) rfl rfl rfl (by decide +kernel) ⟨(Nat.le_of_ble_eq_true rfl), (Nat.le_of_ble_eq_true rfl)⟩) rfl rfl kEnv_T rfl rfl (Nat.le_of_ble_eq_true rfl) dX0_soundUnder_47 hP hD hz) rfl (by decide) ?_
    refine k_iload C dX0_soundUnder_50 6 rfl ?_
    obtain ⟨x5, hx5, h⟩ := bindE h
    refine kcallE_i C (r := x5) (fun H locs ls hP hD hS hF hz => krunS C (c_D_stepBy l D cI cL cZ H.size v4 v5 x4 v8 x5 hx5) (va_cwS 4 C.2.2.2.2.1 (gS wq_99 wq_100 wq_81 wq_98) rfl rfl rfl (by decide +kernel) ⟨(Nat.le_of_ble_eq_true rfl), (Nat.le_of_ble_eq_true rfl)⟩) kEnv_T rfl rfl (Nat.le_of_ble_eq_true rfl) dX0_soundUnder_52 hP hD hz) ?_
    refine k_i2l C dX0_soundUnder_55 ?_
    refine k_lor C dX0_soundUnder_56 ?_
    refine k_lstore C (lv' := [(6, .long ((v6 <<< ((6 : Int32).toInt64 &&& 63)) ||| (Int32.toInt64 x5))), (0, .ref a_this), (2, .int v2), (3, .int v3), (4, .int v4), (5, .int v5), (8, .int v8)]) dX0_soundUnder_57 (by decide) rfl ?_
    refine k_iinc C (v := (v8 + (1 : Int32))) (lv' := [(8, .int (v8 + (1 : Int32))), (6, .long ((v6 <<< ((6 : Int32).toInt64 &&& 63)) ||| (Int32.toInt64 x5))), (0, .ref a_this), (2, .int v2), (3, .int v3), (4, .int v4), (5, .int v5)]) dX0_soundUnder_59 6 rfl rfl (by decide) rfl ?_
    refine k_goto C (tgt := 20) dX0_soundUnder_62 (by decide) ?_
    refine k_lv (lv' := [(0, .ref a_this), (2, .int v2), (3, .int v3), (4, .int v4), (5, .int v5), (6, .long ((v6 <<< ((6 : Int32).toInt64 &&& 63)) ||| (Int32.toInt64 x5))), (8, .int (v8 + (1 : Int32)))]) [2, 3, 4, 5, 6, 1, 0] rfl ?_
    exact kc _ (Option.some.inj h).symm
set_option maxRecDepth 100000 in
set_option maxHeartbeats 4000000 in
theorem s_D_soundUnder_l20 (C : kC p l e rm_D_soundUnder s m args below meth c D (tyG cI cL cZ) A 9 cX0_soundUnder yX0_soundUnder.cls (Cond.code yX0_soundUnder cX0_soundUnder 9 (some .long) :: WS) (some .long)) {X : kX} (hE : kEs X A s) {a_this : Nat} {a_stones : Nat} {a_kinds : Nat} {a_weights : Nat} {a_chances : Nat} {v2 : Int32} {v3 : Int32} {v4 : Int32} {v5 : Int32} {v6 : Int64} {v8 : Int32} {c_width : Int32} {c_rain : Int32} {c_ear : Int32} {c_walkers : Int32} {c_seed : Int32} {c_stones : (Nat → Int32)} {c_kinds : (Nat → Int32)} {c_weights : (Nat → Int32)} {x : Int64} (h : f_D_soundUnder_l20 v2 v3 v4 v5 c_width c_stones v6 v8 = some x)
    (k0 : kW p l e rm_D_soundUnder s m args below meth c D A 9 (cells_D_soundUnder cI cL cZ a_this a_stones a_kinds a_weights a_chances c_width c_rain c_ear c_walkers c_seed c_stones c_kinds c_weights) [(6, .long x)] Q 65 []) :
    kW p l e rm_D_soundUnder s m args below meth c D A 9 (cells_D_soundUnder cI cL cZ a_this a_stones a_kinds a_weights a_chances c_width c_rain c_ear c_walkers c_seed c_stones c_kinds c_weights) [(0, .ref a_this), (2, .int v2), (3, .int v3), (4, .int v4), (5, .int v5), (6, .long v6), (8, .int v8)] Q 20 [] := by
  unfold f_D_soundUnder_l20 at h
  exact iter_W (body := fun s => f_D_soundUnder_b20 v2 v3 v4 v5 c_width c_stones s.1 s.2) (r := x) (T := fun sg => kW p l e rm_D_soundUnder s m args below meth c D A 9 (cells_D_soundUnder cI cL cZ a_this a_stones a_kinds a_weights a_chances c_width c_rain c_ear c_walkers c_seed c_stones c_kinds c_weights) [(0, .ref a_this), (2, .int v2), (3, .int v3), (4, .int v4), (5, .int v5), (6, .long sg.1), (8, .int sg.2)] Q 20 []) (fun sg y hy hc _ hr => s_D_soundUnder_b20 C hE (v2 := v2) (v3 := v3) (v4 := v4) (v5 := v5) (v6 := sg.1) (v8 := sg.2) (c_width := c_width) (c_rain := c_rain) (c_ear := c_ear) (c_walkers := c_walkers) (c_seed := c_seed) (c_stones := c_stones) (c_kinds := c_kinds) (c_weights := c_weights) (x := y) hy hc (fun r e => by rw [hr r e]; exact k0)) FUEL (v6, v8) h
set_option maxRecDepth 100000 in
set_option maxHeartbeats 4000000 in
theorem s_D_soundUnder (C : kC p l e rm_D_soundUnder s m args below meth c D (tyG cI cL cZ) A 9 cX0_soundUnder yX0_soundUnder.cls (Cond.code yX0_soundUnder cX0_soundUnder 9 (some .long) :: WS) (some .long)) {X : kX} (hE : kEs X A s) {a_this : Nat} {a_stones : Nat} {a_kinds : Nat} {a_weights : Nat} {a_chances : Nat} {v1 : Int32} {v2 : Int32} {v3 : Int32} {c_width : Int32} {c_rain : Int32} {c_ear : Int32} {c_walkers : Int32} {c_seed : Int32} {c_stones : (Nat → Int32)} {c_kinds : (Nat → Int32)} {c_weights : (Nat → Int32)} {x : Int64} (h : f_D_soundUnder v1 v2 v3 c_width c_stones c_kinds c_weights = some x) :
    kW p l e rm_D_soundUnder s m args below meth c D A 9 (cells_D_soundUnder cI cL cZ a_this a_stones a_kinds a_weights a_chances c_width c_rain c_ear c_walkers c_seed c_stones c_kinds c_weights) [(0, .ref a_this), (1, .int v1), (2, .int v2), (3, .int v3)] (MQ below (kQl D A (cells_D_soundUnder cI cL cZ a_this a_stones a_kinds a_weights a_chances c_width c_rain c_ear c_walkers c_seed c_stones c_kinds c_weights) x) args s 0 0 A) 0 [] := by
  unfold f_D_soundUnder at h
  refine k_aload_n C dX0_soundUnder_0 0 rfl rfl ?_
  refine k_iload_n C dX0_soundUnder_1 1 rfl rfl ?_
  obtain ⟨x1, hx1, h⟩ := bindE h
  refine kcallR_i C (wc := (cells_D_kindOf cI cL cZ a_this a_stones a_kinds a_weights a_chances c_width c_rain c_ear c_walkers c_seed c_kinds)) (r := x1) [0, 2] (fun H locs ls hP hD hS hF hz => krunV C (q0 := 0) (ci := 0) (c_D_kindOf l D cI cL cZ X H.size a_this a_stones a_kinds a_weights a_chances v1 c_width c_rain c_ear c_walkers c_seed c_kinds x1 hx1) (cwV 1 C.2.2.2.2.1 (gV wq_87 wq_88 wq_89 wq_81 wq_86) rfl rfl rfl (by decide +kernel) ⟨(Nat.le_of_ble_eq_true rfl), (Nat.le_of_ble_eq_true rfl)⟩) rfl rfl (kEs_call hE hS hF) rfl rfl (Nat.le_of_ble_eq_true rfl) dX0_soundUnder_2 hP hD hz) rfl (by decide) ?_
  refine k_istore C (lv' := [(4, .int x1), (0, .ref a_this), (1, .int v1), (2, .int v2), (3, .int v3)]) dX0_soundUnder_5 (by decide) rfl ?_
  refine k_aload_n C dX0_soundUnder_7 1 rfl rfl ?_
  refine k_iload_n C dX0_soundUnder_8 2 rfl rfl ?_
  obtain ⟨x2, hx2, h⟩ := bindE h
  refine kcallR_i C (wc := (cells_D_weightOf cI cL cZ a_this a_stones a_kinds a_weights a_chances c_width c_rain c_ear c_walkers c_seed c_weights)) (r := x2) [0, 3] (fun H locs ls hP hD hS hF hz => krunV C (q0 := 0) (ci := 0) (c_D_weightOf l D cI cL cZ X H.size a_this a_stones a_kinds a_weights a_chances v1 c_width c_rain c_ear c_walkers c_seed c_weights x2 hx2) (cwV 1 C.2.2.2.2.1 (gV wq_91 wq_92 wq_93 wq_81 wq_90) rfl rfl rfl (by decide +kernel) ⟨(Nat.le_of_ble_eq_true rfl), (Nat.le_of_ble_eq_true rfl)⟩) rfl rfl (kEs_call hE hS hF) rfl rfl (Nat.le_of_ble_eq_true rfl) dX0_soundUnder_9 hP hD hz) rfl (by decide) ?_
  refine k_istore C (lv' := [(5, .int x2), (4, .int x1), (0, .ref a_this), (1, .int v1), (2, .int v2), (3, .int v3)]) dX0_soundUnder_12 (by decide) rfl ?_
  refine k_lconst C (v := (0 : Int64)) dX0_soundUnder_14 (by decide) ?_
  refine k_lstore C (lv' := [(6, .long (0 : Int64)), (5, .int x2), (4, .int x1), (0, .ref a_this), (1, .int v1), (2, .int v2), (3, .int v3)]) dX0_soundUnder_15 (by decide) rfl ?_
  refine k_iconst C (v := (0 : Int32)) dX0_soundUnder_17 (by decide) ?_
  refine k_istore C (lv' := [(8, .int (0 : Int32)), (6, .long (0 : Int64)), (5, .int x2), (4, .int x1), (0, .ref a_this), (1, .int v1), (2, .int v2), (3, .int v3)]) dX0_soundUnder_18 (by decide) rfl ?_
  obtain ⟨x6, hx6, h⟩ := bindE h
  refine k_lv (lv' := [(0, .ref a_this), (2, .int v2), (3, .int v3), (4, .int x1), (5, .int x2), (6, .long (0 : Int64)), (8, .int (0 : Int32))]) [4, 6, 7, 3, 2, 1, 0] rfl ?_
  refine s_D_soundUnder_l20 C hE hx6 ?_
  refine k_lload C dX0_soundUnder_65 0 rfl ?_
  obtain rfl := Option.some.inj h
  exact kret_l C rfl dX0_soundUnder_67
theorem c_D_soundUnder (l : Launch) (D : va_G) (cI : ClassId) (cL : ClassId) (cZ : ClassId) (X : kX) (sz : Nat) (a_this : Nat) (a_stones : Nat) (a_kinds : Nat) (a_weights : Nat) (a_chances : Nat) (v1 : Int32) (v2 : Int32) (v3 : Int32) (c_width : Int32) (c_rain : Int32) (c_ear : Int32) (c_walkers : Int32) (c_seed : Int32) (c_stones : (Nat → Int32)) (c_kinds : (Nat → Int32)) (c_weights : (Nat → Int32)) (x : Int64) (h : f_D_soundUnder v1 v2 v3 c_width c_stones c_kinds c_weights = some x) :
    Met l yX0_soundUnder (Cond.code yX0_soundUnder cX0_soundUnder 9 (some .long) :: WS) rm_D_soundUnder (kP D (tyG cI cL cZ) (kEs X (va_A (cells_D_soundUnder cI cL cZ a_this a_stones a_kinds a_weights a_chances c_width c_rain c_ear c_walkers c_seed c_stones c_kinds c_weights) sz)) [.ref a_this, .int v1, .int v2, .int v3] sz (cells_D_soundUnder cI cL cZ a_this a_stones a_kinds a_weights a_chances c_width c_rain c_ear c_walkers c_seed c_stones c_kinds c_weights)) (kQl D (va_A (cells_D_soundUnder cI cL cZ a_this a_stones a_kinds a_weights a_chances c_width c_rain c_ear c_walkers c_seed c_stones c_kinds c_weights) sz) (cells_D_soundUnder cI cL cZ a_this a_stones a_kinds a_weights a_chances c_width c_rain c_ear c_walkers c_seed c_stones c_kinds c_weights) x) 0 0 (va_A (cells_D_soundUnder cI cL cZ a_this a_stones a_kinds a_weights a_chances c_width c_rain c_ear c_walkers c_seed c_stones c_kinds c_weights) sz) :=
  kmet (by decide) (Nat.le_of_ble_eq_true rfl) rfl (fun p e s m below meth c C hE => s_D_soundUnder C hE h)
abbrev cells_M_listen (cI : ClassId) (cL : ClassId) (cZ : ClassId) (a_this : Nat) (a_now : Nat) (a_kept : Nat) (a_trial : Nat) (a_shelves : Nat) (a_tape : Nat) (a_paths : Nat) (a_sounds : Nat) (a_volumes : Nat) (a_refusals : Nat) (a_now_stones : Nat) (a_now_kinds : Nat) (a_now_weights : Nat) (a_now_chances : Nat) (c_isKept : Int32) (c_now_width : Int32) (c_now_rain : Int32) (c_now_ear : Int32) (c_now_walkers : Int32) (c_now_seed : Int32) (c_now_stones : (Nat → Int32)) (c_now_kinds : (Nat → Int32)) (c_now_weights : (Nat → Int32)) (c_sounds : (Nat → Int64)) : va_W := [(a_this, .inr (4, [.ref a_now, .ref a_kept, .ref a_trial, .ref a_shelves, .ref a_tape, .ref a_paths, .ref a_sounds, .ref a_volumes, .ref a_refusals, .int c_isKept])), (a_now, .inr (0, [.ref a_now_stones, .ref a_now_kinds, .ref a_now_weights, .ref a_now_chances, .int c_now_width, .int c_now_rain, .int c_now_ear, .int c_now_walkers, .int c_now_seed])), (a_now_stones, .inl (cI, 36, .inl c_now_stones)), (a_now_kinds, .inl (cI, 8, .inl c_now_kinds)), (a_now_weights, .inl (cI, 8, .inl c_now_weights)), (a_sounds, .inl (cL, 8, .inr (.inl c_sounds)))]
abbrev rm_M_listen : Room := { frames := 3, cells := 0, slots := 0, locals := 86 }
set_option maxRecDepth 100000 in
set_option maxHeartbeats 4000000 in
theorem s_M_listen_b2 (C : kC p l e rm_M_listen s m args below meth c D (tyG cI cL cZ) A 4 cX4_listen yX4_listen.cls (Cond.code yX4_listen cX4_listen 4 none :: WS) none) {X : kX} (hE : kEs X A s) {a_this : Nat} {a_now : Nat} {a_kept : Nat} {a_trial : Nat} {a_shelves : Nat} {a_tape : Nat} {a_paths : Nat} {a_sounds : Nat} {a_volumes : Nat} {a_refusals : Nat} {a_now_stones : Nat} {a_now_kinds : Nat} {a_now_weights : Nat} {a_now_chances : Nat} {v1 : Int32} {v2 : Int32} {v3 : Int32} {c_isKept : Int32} {c_now_width : Int32} {c_now_rain : Int32} {c_now_ear : Int32} {c_now_walkers : Int32} {c_now_seed : Int32} {c_now_stones : (Nat → Int32)} {c_now_kinds : (Nat → Int32)} {c_now_weights : (Nat → Int32)} {c_sounds : (Nat → Int64)} {x : ((Int32 × (Nat → Int64)) ⊕ (Nat → Int64))} (h : f_M_listen_b2 v1 v2 c_now_width c_now_walkers c_now_stones c_now_kinds c_now_weights v3 c_sounds = some x)
    (kc : ∀ s', x = .inl s' → kW p l e rm_M_listen s m args below meth c D A 4 (cells_M_listen cI cL cZ a_this a_now a_kept a_trial a_shelves a_tape a_paths a_sounds a_volumes a_refusals a_now_stones a_now_kinds a_now_weights a_now_chances c_isKept c_now_width c_now_rain c_now_ear c_now_walkers c_now_seed c_now_stones c_now_kinds c_now_weights s'.2) [(0, .ref a_this), (1, .int v1), (2, .int v2), (3, .int s'.1)] Q 2 [])
    (k0 : ∀ r, x = .inr r → kW p l e rm_M_listen s m args below meth c D A 4 (cells_M_listen cI cL cZ a_this a_now a_kept a_trial a_shelves a_tape a_paths a_sounds a_volumes a_refusals a_now_stones a_now_kinds a_now_weights a_now_chances c_isKept c_now_width c_now_rain c_now_ear c_now_walkers c_now_seed c_now_stones c_now_kinds c_now_weights r) [] Q 35 []) :
    kW p l e rm_M_listen s m args below meth c D A 4 (cells_M_listen cI cL cZ a_this a_now a_kept a_trial a_shelves a_tape a_paths a_sounds a_volumes a_refusals a_now_stones a_now_kinds a_now_weights a_now_chances c_isKept c_now_width c_now_rain c_now_ear c_now_walkers c_now_seed c_now_stones c_now_kinds c_now_weights c_sounds) [(0, .ref a_this), (1, .int v1), (2, .int v2), (3, .int v3)] Q 2 [] := by
  unfold f_M_listen_b2 at h
  refine k_iload_n C dX4_listen_2 3 rfl rfl ?_
  refine k_aload_n C dX4_listen_3 0 rfl rfl ?_
  refine k_get C (C0 := RX4) (T := TX4) (N := 10) (fun w h => List.mem_cons_of_mem _ (us_M w h)) 0 rfl rfl 0 (by decide) (List.mem_cons_of_mem _ wq_62) rfl rfl dX4_listen_4 ?_
  refine k_get C (C0 := RX0) (T := TX0) (N := 9) (fun w h => List.mem_cons_of_mem _ (us_D w h)) 1 rfl rfl 7 (by decide) (List.mem_cons_of_mem _ wq_63) rfl rfl dX4_listen_7 ?_
  refine k_icmp_ge C (tgt := 35) dX4_listen_10 (by decide) (fun c_10 => ?_) (fun c_10 => ?_)
  · have h := ifT c_10 h
    refine k_lv (lv' := []) [] rfl ?_
    exact k0 _ (Option.some.inj h).symm
  · have h := ifF c_10 h
    refine k_aload_n C dX4_listen_13 0 rfl rfl ?_
    refine k_get C (C0 := RX4) (T := TX4) (N := 10) (fun w h => List.mem_cons_of_mem _ (us_M w h)) 0 rfl rfl 6 (by decide) (List.mem_cons_of_mem _ wq_416) rfl rfl dX4_listen_14 ?_
    refine k_iload_n C dX4_listen_17 3 rfl rfl ?_
    refine k_aload_n C dX4_listen_18 0 rfl rfl ?_
    refine k_get C (C0 := RX4) (T := TX4) (N := 10) (fun w h => List.mem_cons_of_mem _ (us_M w h)) 0 rfl rfl 0 (by decide) (List.mem_cons_of_mem _ wq_62) rfl rfl dX4_listen_19 ?_
    refine k_iload_n C dX4_listen_22 3 rfl rfl ?_
    refine k_iload_n C dX4_listen_23 1 rfl rfl ?_
    refine k_iload_n C dX4_listen_24 2 rfl rfl ?_
    obtain ⟨x1, hx1, h⟩ := bindE h
    refine kcallR_l C (wc := (cells_D_soundUnder cI cL cZ a_now a_now_stones a_now_kinds a_now_weights a_now_chances c_now_width c_now_rain c_now_ear c_now_walkers c_now_seed c_now_stones c_now_kinds c_now_weights)) (r := x1) [1, 2, 3, 4] (fun H locs ls hP hD hS hF hz => krunV C (q0 := 0) (ci := 0) (c_D_soundUnder l D cI cL cZ X H.size a_now a_now_stones a_now_kinds a_now_weights a_now_chances v3 v1 v2 c_now_width c_now_rain c_now_ear c_now_walkers c_now_seed c_now_stones c_now_kinds c_now_weights x1 hx1) (cwV 3 C.2.2.2.2.1 (gV wq_418 wq_419 wq_420 wq_81 wq_417) rfl rfl rfl (by decide +kernel) ⟨(Nat.le_of_ble_eq_true rfl), (Nat.le_of_ble_eq_true rfl)⟩) rfl rfl (kEs_call hE hS hF) rfl rfl (Nat.le_of_ble_eq_true rfl) dX4_listen_25 hP hD hz) rfl (by decide) ?_
    obtain ⟨x2, hx2, h⟩ := bindE h
    refine k_last C 5 1 (ws' := (cells_M_listen cI cL cZ a_this a_now a_kept a_trial a_shelves a_tape a_paths a_sounds a_volumes a_refusals a_now_stones a_now_kinds a_now_weights a_now_chances c_isKept c_now_width c_now_rain c_now_ear c_now_walkers c_now_seed c_now_stones c_now_kinds c_now_weights x2)) rfl rfl hx2 rfl dX4_listen_28 ?_
    refine k_iinc C (v := (v3 + (1 : Int32))) (lv' := [(3, .int (v3 + (1 : Int32))), (0, .ref a_this), (1, .int v1), (2, .int v2)]) dX4_listen_29 3 rfl rfl (by decide) rfl ?_
    refine k_goto C (tgt := 2) dX4_listen_32 (by decide) ?_
    refine k_lv (lv' := [(0, .ref a_this), (1, .int v1), (2, .int v2), (3, .int (v3 + (1 : Int32)))]) [1, 2, 3, 0] rfl ?_
    exact kc _ (Option.some.inj h).symm
set_option maxRecDepth 100000 in
set_option maxHeartbeats 4000000 in
theorem s_M_listen_l2 (C : kC p l e rm_M_listen s m args below meth c D (tyG cI cL cZ) A 4 cX4_listen yX4_listen.cls (Cond.code yX4_listen cX4_listen 4 none :: WS) none) {X : kX} (hE : kEs X A s) {a_this : Nat} {a_now : Nat} {a_kept : Nat} {a_trial : Nat} {a_shelves : Nat} {a_tape : Nat} {a_paths : Nat} {a_sounds : Nat} {a_volumes : Nat} {a_refusals : Nat} {a_now_stones : Nat} {a_now_kinds : Nat} {a_now_weights : Nat} {a_now_chances : Nat} {v1 : Int32} {v2 : Int32} {v3 : Int32} {c_isKept : Int32} {c_now_width : Int32} {c_now_rain : Int32} {c_now_ear : Int32} {c_now_walkers : Int32} {c_now_seed : Int32} {c_now_stones : (Nat → Int32)} {c_now_kinds : (Nat → Int32)} {c_now_weights : (Nat → Int32)} {c_sounds : (Nat → Int64)} {x : (Nat → Int64)} (h : f_M_listen_l2 v1 v2 c_now_width c_now_walkers c_now_stones c_now_kinds c_now_weights v3 c_sounds = some x)
    (k0 : kW p l e rm_M_listen s m args below meth c D A 4 (cells_M_listen cI cL cZ a_this a_now a_kept a_trial a_shelves a_tape a_paths a_sounds a_volumes a_refusals a_now_stones a_now_kinds a_now_weights a_now_chances c_isKept c_now_width c_now_rain c_now_ear c_now_walkers c_now_seed c_now_stones c_now_kinds c_now_weights x) [] Q 35 []) :
    kW p l e rm_M_listen s m args below meth c D A 4 (cells_M_listen cI cL cZ a_this a_now a_kept a_trial a_shelves a_tape a_paths a_sounds a_volumes a_refusals a_now_stones a_now_kinds a_now_weights a_now_chances c_isKept c_now_width c_now_rain c_now_ear c_now_walkers c_now_seed c_now_stones c_now_kinds c_now_weights c_sounds) [(0, .ref a_this), (1, .int v1), (2, .int v2), (3, .int v3)] Q 2 [] := by
  unfold f_M_listen_l2 at h
  exact iter_W (body := fun s => f_M_listen_b2 v1 v2 c_now_width c_now_walkers c_now_stones c_now_kinds c_now_weights s.1 s.2) (r := x) (T := fun sg => kW p l e rm_M_listen s m args below meth c D A 4 (cells_M_listen cI cL cZ a_this a_now a_kept a_trial a_shelves a_tape a_paths a_sounds a_volumes a_refusals a_now_stones a_now_kinds a_now_weights a_now_chances c_isKept c_now_width c_now_rain c_now_ear c_now_walkers c_now_seed c_now_stones c_now_kinds c_now_weights sg.2) [(0, .ref a_this), (1, .int v1), (2, .int v2), (3, .int sg.1)] Q 2 []) (fun sg y hy hc _ hr => s_M_listen_b2 C hE (v1 := v1) (v2 := v2) (v3 := sg.1) (c_isKept := c_isKept) (c_now_width := c_now_width) (c_now_rain := c_now_rain) (c_now_ear := c_now_ear) (c_now_walkers := c_now_walkers) (c_now_seed := c_now_seed) (c_now_stones := c_now_stones) (c_now_kinds := c_now_kinds) (c_now_weights := c_now_weights) (c_sounds := sg.2) (x := y) hy hc (fun r e => by rw [hr r e]; exact k0)) FUEL (v3, c_sounds) h
set_option maxRecDepth 100000 in
set_option maxHeartbeats 4000000 in
theorem s_M_listen (C : kC p l e rm_M_listen s m args below meth c D (tyG cI cL cZ) A 4 cX4_listen yX4_listen.cls (Cond.code yX4_listen cX4_listen 4 none :: WS) none) {X : kX} (hE : kEs X A s) {a_this : Nat} {a_now : Nat} {a_kept : Nat} {a_trial : Nat} {a_shelves : Nat} {a_tape : Nat} {a_paths : Nat} {a_sounds : Nat} {a_volumes : Nat} {a_refusals : Nat} {a_now_stones : Nat} {a_now_kinds : Nat} {a_now_weights : Nat} {a_now_chances : Nat} {v1 : Int32} {v2 : Int32} {c_isKept : Int32} {c_now_width : Int32} {c_now_rain : Int32} {c_now_ear : Int32} {c_now_walkers : Int32} {c_now_seed : Int32} {c_now_stones : (Nat → Int32)} {c_now_kinds : (Nat → Int32)} {c_now_weights : (Nat → Int32)} {c_sounds : (Nat → Int64)} {x : (Nat → Int64)} (h : f_M_listen v1 v2 c_now_width c_now_walkers c_now_stones c_now_kinds c_now_weights c_sounds = some x) :
    kW p l e rm_M_listen s m args below meth c D A 4 (cells_M_listen cI cL cZ a_this a_now a_kept a_trial a_shelves a_tape a_paths a_sounds a_volumes a_refusals a_now_stones a_now_kinds a_now_weights a_now_chances c_isKept c_now_width c_now_rain c_now_ear c_now_walkers c_now_seed c_now_stones c_now_kinds c_now_weights c_sounds) [(0, .ref a_this), (1, .int v1), (2, .int v2)] (MQ below (kQv D A (cells_M_listen cI cL cZ a_this a_now a_kept a_trial a_shelves a_tape a_paths a_sounds a_volumes a_refusals a_now_stones a_now_kinds a_now_weights a_now_chances c_isKept c_now_width c_now_rain c_now_ear c_now_walkers c_now_seed c_now_stones c_now_kinds c_now_weights x)) args s 0 0 A) 0 [] := by
  unfold f_M_listen at h
  refine k_iconst C (v := (0 : Int32)) dX4_listen_0 (by decide) ?_
  refine k_istore_n C (lv' := [(3, .int (0 : Int32)), (0, .ref a_this), (1, .int v1), (2, .int v2)]) dX4_listen_1 rfl (by decide) rfl ?_
  obtain ⟨x3, hx3, h⟩ := bindE h
  refine k_lv (lv' := [(0, .ref a_this), (1, .int v1), (2, .int v2), (3, .int (0 : Int32))]) [1, 2, 3, 0] rfl ?_
  refine s_M_listen_l2 C hE hx3 ?_
  obtain rfl := Option.some.inj h
  exact kret_v C rfl dX4_listen_35
theorem c_M_listen (l : Launch) (D : va_G) (cI : ClassId) (cL : ClassId) (cZ : ClassId) (X : kX) (sz : Nat) (a_this : Nat) (a_now : Nat) (a_kept : Nat) (a_trial : Nat) (a_shelves : Nat) (a_tape : Nat) (a_paths : Nat) (a_sounds : Nat) (a_volumes : Nat) (a_refusals : Nat) (a_now_stones : Nat) (a_now_kinds : Nat) (a_now_weights : Nat) (a_now_chances : Nat) (v1 : Int32) (v2 : Int32) (c_isKept : Int32) (c_now_width : Int32) (c_now_rain : Int32) (c_now_ear : Int32) (c_now_walkers : Int32) (c_now_seed : Int32) (c_now_stones : (Nat → Int32)) (c_now_kinds : (Nat → Int32)) (c_now_weights : (Nat → Int32)) (c_sounds : (Nat → Int64)) (x : (Nat → Int64)) (h : f_M_listen v1 v2 c_now_width c_now_walkers c_now_stones c_now_kinds c_now_weights c_sounds = some x) :
    Met l yX4_listen (Cond.code yX4_listen cX4_listen 4 none :: WS) rm_M_listen (kP D (tyG cI cL cZ) (kEs X (va_A (cells_M_listen cI cL cZ a_this a_now a_kept a_trial a_shelves a_tape a_paths a_sounds a_volumes a_refusals a_now_stones a_now_kinds a_now_weights a_now_chances c_isKept c_now_width c_now_rain c_now_ear c_now_walkers c_now_seed c_now_stones c_now_kinds c_now_weights c_sounds) sz)) [.ref a_this, .int v1, .int v2] sz (cells_M_listen cI cL cZ a_this a_now a_kept a_trial a_shelves a_tape a_paths a_sounds a_volumes a_refusals a_now_stones a_now_kinds a_now_weights a_now_chances c_isKept c_now_width c_now_rain c_now_ear c_now_walkers c_now_seed c_now_stones c_now_kinds c_now_weights c_sounds)) (kQv D (va_A (cells_M_listen cI cL cZ a_this a_now a_kept a_trial a_shelves a_tape a_paths a_sounds a_volumes a_refusals a_now_stones a_now_kinds a_now_weights a_now_chances c_isKept c_now_width c_now_rain c_now_ear c_now_walkers c_now_seed c_now_stones c_now_kinds c_now_weights c_sounds) sz) (cells_M_listen cI cL cZ a_this a_now a_kept a_trial a_shelves a_tape a_paths a_sounds a_volumes a_refusals a_now_stones a_now_kinds a_now_weights a_now_chances c_isKept c_now_width c_now_rain c_now_ear c_now_walkers c_now_seed c_now_stones c_now_kinds c_now_weights x)) 0 0 (va_A (cells_M_listen cI cL cZ a_this a_now a_kept a_trial a_shelves a_tape a_paths a_sounds a_volumes a_refusals a_now_stones a_now_kinds a_now_weights a_now_chances c_isKept c_now_width c_now_rain c_now_ear c_now_walkers c_now_seed c_now_stones c_now_kinds c_now_weights c_sounds) sz) :=
  kmet (by decide) (Nat.le_of_ble_eq_true rfl) rfl (fun p e s m below meth c C hE => s_M_listen C hE h)
abbrev cells_M_confused (cI : ClassId) (cL : ClassId) (cZ : ClassId) (a_this : Nat) (a_now : Nat) (a_kept : Nat) (a_trial : Nat) (a_shelves : Nat) (a_tape : Nat) (a_paths : Nat) (a_sounds : Nat) (a_volumes : Nat) (a_refusals : Nat) (a_now_stones : Nat) (a_now_kinds : Nat) (a_now_weights : Nat) (a_now_chances : Nat) (c_isKept : Int32) (c_now_width : Int32) (c_now_rain : Int32) (c_now_ear : Int32) (c_now_walkers : Int32) (c_now_seed : Int32) (c_now_stones : (Nat → Int32)) (c_now_kinds : (Nat → Int32)) (c_now_weights : (Nat → Int32)) (c_sounds : (Nat → Int64)) (c_refusals : (Nat → Int32)) : va_W := [(a_this, .inr (4, [.ref a_now, .ref a_kept, .ref a_trial, .ref a_shelves, .ref a_tape, .ref a_paths, .ref a_sounds, .ref a_volumes, .ref a_refusals, .int c_isKept])), (a_now, .inr (0, [.ref a_now_stones, .ref a_now_kinds, .ref a_now_weights, .ref a_now_chances, .int c_now_width, .int c_now_rain, .int c_now_ear, .int c_now_walkers, .int c_now_seed])), (a_now_stones, .inl (cI, 36, .inl c_now_stones)), (a_now_kinds, .inl (cI, 8, .inl c_now_kinds)), (a_now_weights, .inl (cI, 8, .inl c_now_weights)), (a_sounds, .inl (cL, 8, .inr (.inl c_sounds))), (a_refusals, .inl (cI, 5, .inl c_refusals))]
abbrev rm_M_confused : Room := { frames := 4, cells := 0, slots := 0, locals := 109 }
set_option maxRecDepth 100000 in
set_option maxHeartbeats 4000000 in
theorem s_M_confused_b45 (C : kC p l e rm_M_confused s m args below meth c D (tyG cI cL cZ) A 5 cX4_confused yX4_confused.cls (Cond.code yX4_confused cX4_confused 5 (some .int) :: WS) (some .int)) {X : kX} (hE : kEs X A s) {a_this : Nat} {a_now : Nat} {a_kept : Nat} {a_trial : Nat} {a_shelves : Nat} {a_tape : Nat} {a_paths : Nat} {a_sounds : Nat} {a_volumes : Nat} {a_refusals : Nat} {a_now_stones : Nat} {a_now_kinds : Nat} {a_now_weights : Nat} {a_now_chances : Nat} {v1 : Int32} {v2 : Int32} {v3 : Int32} {v4 : Int32} {c_isKept : Int32} {c_now_width : Int32} {c_now_rain : Int32} {c_now_ear : Int32} {c_now_walkers : Int32} {c_now_seed : Int32} {c_now_stones : (Nat → Int32)} {c_now_kinds : (Nat → Int32)} {c_now_weights : (Nat → Int32)} {c_sounds : (Nat → Int64)} {c_refusals : (Nat → Int32)} {x : ((Int32 × Int32) ⊕ Int32)} (h : f_M_confused_b45 v1 c_now_walkers c_sounds v2 v4 = some x)
    (kc : ∀ s', x = .inl s' → kW p l e rm_M_confused s m args below meth c D A 5 (cells_M_confused cI cL cZ a_this a_now a_kept a_trial a_shelves a_tape a_paths a_sounds a_volumes a_refusals a_now_stones a_now_kinds a_now_weights a_now_chances c_isKept c_now_width c_now_rain c_now_ear c_now_walkers c_now_seed c_now_stones c_now_kinds c_now_weights c_sounds c_refusals) [(0, .ref a_this), (1, .int v1), (2, .int s'.1), (3, .int v3), (4, .int s'.2)] Q 45 [])
    (k0 : ∀ r, x = .inr r → kW p l e rm_M_confused s m args below meth c D A 5 (cells_M_confused cI cL cZ a_this a_now a_kept a_trial a_shelves a_tape a_paths a_sounds a_volumes a_refusals a_now_stones a_now_kinds a_now_weights a_now_chances c_isKept c_now_width c_now_rain c_now_ear c_now_walkers c_now_seed c_now_stones c_now_kinds c_now_weights c_sounds c_refusals) [(0, .ref a_this), (1, .int v1), (2, .int r), (3, .int v3)] Q 93 []) :
    kW p l e rm_M_confused s m args below meth c D A 5 (cells_M_confused cI cL cZ a_this a_now a_kept a_trial a_shelves a_tape a_paths a_sounds a_volumes a_refusals a_now_stones a_now_kinds a_now_weights a_now_chances c_isKept c_now_width c_now_rain c_now_ear c_now_walkers c_now_seed c_now_stones c_now_kinds c_now_weights c_sounds c_refusals) [(0, .ref a_this), (1, .int v1), (2, .int v2), (3, .int v3), (4, .int v4)] Q 45 [] := by
  unfold f_M_confused_b45 at h
  refine k_iload C dX4_confused_45 4 rfl ?_
  refine k_aload_n C dX4_confused_47 0 rfl rfl ?_
  refine k_get C (C0 := RX4) (T := TX4) (N := 10) (fun w h => List.mem_cons_of_mem _ (us_M w h)) 0 rfl rfl 0 (by decide) (List.mem_cons_of_mem _ wq_62) rfl rfl dX4_confused_48 ?_
  refine k_get C (C0 := RX0) (T := TX0) (N := 9) (fun w h => List.mem_cons_of_mem _ (us_D w h)) 1 rfl rfl 7 (by decide) (List.mem_cons_of_mem _ wq_63) rfl rfl dX4_confused_51 ?_
  refine k_icmp_ge C (tgt := 93) dX4_confused_54 (by decide) (fun c_54 => ?_) (fun c_54 => ?_)
  · have h := ifT c_54 h
    refine k_lv (lv' := [(0, .ref a_this), (1, .int v1), (2, .int v2), (3, .int v3)]) [0, 1, 2, 3] rfl ?_
    exact k0 _ (Option.some.inj h).symm
  · have h := ifF c_54 h
    refine k_iload C dX4_confused_57 4 rfl ?_
    refine k_iload_n C dX4_confused_59 1 rfl rfl ?_
    refine k_icmp_eq C (tgt := 87) dX4_confused_60 (by decide) (fun c_60 => ?_) (fun c_60 => ?_)
    · have h := ifT c_60 h
      refine k_iinc C (v := (v4 + (1 : Int32))) (lv' := [(4, .int (v4 + (1 : Int32))), (0, .ref a_this), (1, .int v1), (2, .int v2), (3, .int v3)]) dX4_confused_87 4 rfl rfl (by decide) rfl ?_
      refine k_goto C (tgt := 45) dX4_confused_90 (by decide) ?_
      refine k_lv (lv' := [(0, .ref a_this), (1, .int v1), (2, .int v2), (3, .int v3), (4, .int (v4 + (1 : Int32)))]) [1, 2, 3, 4, 0] rfl ?_
      exact kc _ (Option.some.inj h).symm
    · have h := ifF c_60 h
      refine k_aload_n C dX4_confused_63 0 rfl rfl ?_
      refine k_get C (C0 := RX4) (T := TX4) (N := 10) (fun w h => List.mem_cons_of_mem _ (us_M w h)) 0 rfl rfl 6 (by decide) (List.mem_cons_of_mem _ wq_416) rfl rfl dX4_confused_64 ?_
      refine k_iload C dX4_confused_67 4 rfl ?_
      obtain ⟨x3, hx3, h⟩ := bindE h
      refine k_lald C 5 1 rfl rfl hx3 dX4_confused_69 ?_
      refine k_aload_n C dX4_confused_70 0 rfl rfl ?_
      refine k_get C (C0 := RX4) (T := TX4) (N := 10) (fun w h => List.mem_cons_of_mem _ (us_M w h)) 0 rfl rfl 6 (by decide) (List.mem_cons_of_mem _ wq_416) rfl rfl dX4_confused_71 ?_
      refine k_iload_n C dX4_confused_74 1 rfl rfl ?_
      obtain ⟨x4, hx4, h⟩ := bindE h
      refine k_lald C 5 1 rfl rfl hx4 dX4_confused_75 ?_
      refine k_lcmp C dX4_confused_76 ?_
      refine k_if_ne C (tgt := 87) dX4_confused_77 (by decide) (fun c_77 => ?_) (fun c_77 => ?_)
      · have h := ifF c_77 h
        refine k_iinc C (v := (v4 + (1 : Int32))) (lv' := [(4, .int (v4 + (1 : Int32))), (0, .ref a_this), (1, .int v1), (2, .int v2), (3, .int v3)]) dX4_confused_87 4 rfl rfl (by decide) rfl ?_
        refine k_goto C (tgt := 45) dX4_confused_90 (by decide) ?_
        refine k_lv (lv' := [(0, .ref a_this), (1, .int v1), (2, .int v2), (3, .int v3), (4, .int (v4 + (1 : Int32)))]) [1, 2, 3, 4, 0] rfl ?_
        exact kc _ (Option.some.inj h).symm
      · have h := ifT c_77 h
        refine k_iload_n C dX4_confused_80 2 rfl rfl ?_
        refine k_iconst C (v := (1 : Int32)) dX4_confused_81 (by decide) ?_
        refine k_iload C dX4_confused_82 4 rfl ?_
        refine k_ishl C dX4_confused_84 ?_
        refine k_ior C dX4_confused_85 ?_
        refine k_istore_n C (lv' := [(2, .int (v2 ||| ((1 : Int32) <<< (v4 &&& 31)))), (0, .ref a_this), (1, .int v1), (3, .int v3), (4, .int v4)]) dX4_confused_86 rfl (by decide) rfl ?_
        refine k_iinc C (v := (v4 + (1 : Int32))) (lv' := [(4, .int (v4 + (1 : Int32))), (2, .int (v2 ||| ((1 : Int32) <<< (v4 &&& 31)))), (0, .ref a_this), (1, .int v1), (3, .int v3)]) dX4_confused_87 4 rfl rfl (by decide) rfl ?_
        refine k_goto C (tgt := 45) dX4_confused_90 (by decide) ?_
        refine k_lv (lv' := [(0, .ref a_this), (1, .int v1), (2, .int (v2 ||| ((1 : Int32) <<< (v4 &&& 31)))), (3, .int v3), (4, .int (v4 + (1 : Int32)))]) [2, 3, 1, 4, 0] rfl ?_
        exact kc _ (Option.some.inj h).symm
set_option maxRecDepth 100000 in
set_option maxHeartbeats 4000000 in
theorem s_M_confused_l45 (C : kC p l e rm_M_confused s m args below meth c D (tyG cI cL cZ) A 5 cX4_confused yX4_confused.cls (Cond.code yX4_confused cX4_confused 5 (some .int) :: WS) (some .int)) {X : kX} (hE : kEs X A s) {a_this : Nat} {a_now : Nat} {a_kept : Nat} {a_trial : Nat} {a_shelves : Nat} {a_tape : Nat} {a_paths : Nat} {a_sounds : Nat} {a_volumes : Nat} {a_refusals : Nat} {a_now_stones : Nat} {a_now_kinds : Nat} {a_now_weights : Nat} {a_now_chances : Nat} {v1 : Int32} {v2 : Int32} {v3 : Int32} {v4 : Int32} {c_isKept : Int32} {c_now_width : Int32} {c_now_rain : Int32} {c_now_ear : Int32} {c_now_walkers : Int32} {c_now_seed : Int32} {c_now_stones : (Nat → Int32)} {c_now_kinds : (Nat → Int32)} {c_now_weights : (Nat → Int32)} {c_sounds : (Nat → Int64)} {c_refusals : (Nat → Int32)} {x : Int32} (h : f_M_confused_l45 v1 c_now_walkers c_sounds v2 v4 = some x)
    (k0 : kW p l e rm_M_confused s m args below meth c D A 5 (cells_M_confused cI cL cZ a_this a_now a_kept a_trial a_shelves a_tape a_paths a_sounds a_volumes a_refusals a_now_stones a_now_kinds a_now_weights a_now_chances c_isKept c_now_width c_now_rain c_now_ear c_now_walkers c_now_seed c_now_stones c_now_kinds c_now_weights c_sounds c_refusals) [(0, .ref a_this), (1, .int v1), (2, .int x), (3, .int v3)] Q 93 []) :
    kW p l e rm_M_confused s m args below meth c D A 5 (cells_M_confused cI cL cZ a_this a_now a_kept a_trial a_shelves a_tape a_paths a_sounds a_volumes a_refusals a_now_stones a_now_kinds a_now_weights a_now_chances c_isKept c_now_width c_now_rain c_now_ear c_now_walkers c_now_seed c_now_stones c_now_kinds c_now_weights c_sounds c_refusals) [(0, .ref a_this), (1, .int v1), (2, .int v2), (3, .int v3), (4, .int v4)] Q 45 [] := by
  unfold f_M_confused_l45 at h
  exact iter_W (body := fun s => f_M_confused_b45 v1 c_now_walkers c_sounds s.1 s.2) (r := x) (T := fun sg => kW p l e rm_M_confused s m args below meth c D A 5 (cells_M_confused cI cL cZ a_this a_now a_kept a_trial a_shelves a_tape a_paths a_sounds a_volumes a_refusals a_now_stones a_now_kinds a_now_weights a_now_chances c_isKept c_now_width c_now_rain c_now_ear c_now_walkers c_now_seed c_now_stones c_now_kinds c_now_weights c_sounds c_refusals) [(0, .ref a_this), (1, .int v1), (2, .int sg.1), (3, .int v3), (4, .int sg.2)] Q 45 []) (fun sg y hy hc _ hr => s_M_confused_b45 C hE (v1 := v1) (v2 := sg.1) (v3 := v3) (v4 := sg.2) (c_isKept := c_isKept) (c_now_width := c_now_width) (c_now_rain := c_now_rain) (c_now_ear := c_now_ear) (c_now_walkers := c_now_walkers) (c_now_seed := c_now_seed) (c_now_stones := c_now_stones) (c_now_kinds := c_now_kinds) (c_now_weights := c_now_weights) (c_sounds := c_sounds) (c_refusals := c_refusals) (x := y) hy hc (fun r e => by rw [hr r e]; exact k0)) FUEL (v2, v4) h
set_option maxRecDepth 100000 in
set_option maxHeartbeats 4000000 in
theorem s_M_confused_b19 (C : kC p l e rm_M_confused s m args below meth c D (tyG cI cL cZ) A 5 cX4_confused yX4_confused.cls (Cond.code yX4_confused cX4_confused 5 (some .int) :: WS) (some .int)) {X : kX} (hE : kEs X A s) {a_this : Nat} {a_now : Nat} {a_kept : Nat} {a_trial : Nat} {a_shelves : Nat} {a_tape : Nat} {a_paths : Nat} {a_sounds : Nat} {a_volumes : Nat} {a_refusals : Nat} {a_now_stones : Nat} {a_now_kinds : Nat} {a_now_weights : Nat} {a_now_chances : Nat} {v1 : Int32} {v2 : Int32} {v3 : Int32} {c_isKept : Int32} {c_now_width : Int32} {c_now_rain : Int32} {c_now_ear : Int32} {c_now_walkers : Int32} {c_now_seed : Int32} {c_now_stones : (Nat → Int32)} {c_now_kinds : (Nat → Int32)} {c_now_weights : (Nat → Int32)} {c_sounds : (Nat → Int64)} {c_refusals : (Nat → Int32)} {x : ((Int32 × Int32 × (Nat → Int64)) ⊕ (Int32 × (Nat → Int64)))} (h : f_M_confused_b19 v1 c_now_width c_now_rain c_now_walkers c_now_stones c_now_kinds c_now_weights v2 v3 c_sounds = some x)
    (kc : ∀ s', x = .inl s' → kW p l e rm_M_confused s m args below meth c D A 5 (cells_M_confused cI cL cZ a_this a_now a_kept a_trial a_shelves a_tape a_paths a_sounds a_volumes a_refusals a_now_stones a_now_kinds a_now_weights a_now_chances c_isKept c_now_width c_now_rain c_now_ear c_now_walkers c_now_seed c_now_stones c_now_kinds c_now_weights s'.2.2 c_refusals) [(0, .ref a_this), (1, .int v1), (2, .int s'.1), (3, .int s'.2.1)] Q 19 [])
    (k0 : ∀ r, x = .inr r → kW p l e rm_M_confused s m args below meth c D A 5 (cells_M_confused cI cL cZ a_this a_now a_kept a_trial a_shelves a_tape a_paths a_sounds a_volumes a_refusals a_now_stones a_now_kinds a_now_weights a_now_chances c_isKept c_now_width c_now_rain c_now_ear c_now_walkers c_now_seed c_now_stones c_now_kinds c_now_weights r.2 c_refusals) [(2, .int r.1)] Q 99 []) :
    kW p l e rm_M_confused s m args below meth c D A 5 (cells_M_confused cI cL cZ a_this a_now a_kept a_trial a_shelves a_tape a_paths a_sounds a_volumes a_refusals a_now_stones a_now_kinds a_now_weights a_now_chances c_isKept c_now_width c_now_rain c_now_ear c_now_walkers c_now_seed c_now_stones c_now_kinds c_now_weights c_sounds c_refusals) [(0, .ref a_this), (1, .int v1), (2, .int v2), (3, .int v3)] Q 19 [] := by
  unfold f_M_confused_b19 at h
  refine k_iload_n C dX4_confused_19 3 rfl rfl ?_
  refine k_aload_n C dX4_confused_20 0 rfl rfl ?_
  refine k_get C (C0 := RX4) (T := TX4) (N := 10) (fun w h => List.mem_cons_of_mem _ (us_M w h)) 0 rfl rfl 0 (by decide) (List.mem_cons_of_mem _ wq_62) rfl rfl dX4_confused_21 ?_
  refine k_get C (C0 := RX0) (T := TX0) (N := 9) (fun w h => List.mem_cons_of_mem _ (us_D w h)) 1 rfl rfl 4 (by decide) (List.mem_cons_of_mem _ wq_119) rfl rfl dX4_confused_24 ?_
  refine k_icmp_ge C (tgt := 99) dX4_confused_27 (by decide) (fun c_27 => ?_) (fun c_27 => ?_)
  · have h := ifT c_27 h
    refine k_lv (lv' := [(2, .int v2)]) [2] rfl ?_
    exact k0 _ (Option.some.inj h).symm
  · have h := ifF c_27 h
    refine k_aload_n C dX4_confused_30 0 rfl rfl ?_
    refine k_iload_n C dX4_confused_31 3 rfl rfl ?_
    refine k_aload_n C dX4_confused_32 0 rfl rfl ?_
    refine k_get C (C0 := RX4) (T := TX4) (N := 10) (fun w h => List.mem_cons_of_mem _ (us_M w h)) 0 rfl rfl 0 (by decide) (List.mem_cons_of_mem _ wq_62) rfl rfl dX4_confused_33 ?_
    refine k_get C (C0 := RX0) (T := TX0) (N := 9) (fun w h => List.mem_cons_of_mem _ (us_D w h)) 1 rfl rfl 5 (by decide) (List.mem_cons_of_mem _ wq_141) rfl rfl dX4_confused_36 ?_
    obtain ⟨x2, hx2, h⟩ := bindE h
    refine kcallU_v C (wc := (cells_M_listen cI cL cZ a_this a_now a_kept a_trial a_shelves a_tape a_paths a_sounds a_volumes a_refusals a_now_stones a_now_kinds a_now_weights a_now_chances c_isKept c_now_width c_now_rain c_now_ear c_now_walkers c_now_seed c_now_stones c_now_kinds c_now_weights c_sounds)) (w1 := (cells_M_listen cI cL cZ a_this a_now a_kept a_trial a_shelves a_tape a_paths a_sounds a_volumes a_refusals a_now_stones a_now_kinds a_now_weights a_now_chances c_isKept c_now_width c_now_rain c_now_ear c_now_walkers c_now_seed c_now_stones c_now_kinds c_now_weights x2)) (ws' := (cells_M_confused cI cL cZ a_this a_now a_kept a_trial a_shelves a_tape a_paths a_sounds a_volumes a_refusals a_now_stones a_now_kinds a_now_weights a_now_chances c_isKept c_now_width c_now_rain c_now_ear c_now_walkers c_now_seed c_now_stones c_now_kinds c_now_weights x2 c_refusals)) [0, 1, 2, 3, 4, 5] (fun H locs ls hP hD hS hF hz => krunV C (q0 := 0) (ci := 4) (c_M_listen l D cI cL cZ X H.size a_this a_now a_kept a_trial a_shelves a_tape a_paths a_sounds a_volumes a_refusals a_now_stones a_now_kinds a_now_weights a_now_chances v3 c_now_rain c_isKept c_now_width c_now_rain c_now_ear c_now_walkers c_now_seed c_now_stones c_now_kinds c_now_weights c_sounds x2 hx2) (cwV 2 C.2.2.2.2.1 (gV wq_422 wq_423 wq_424 wq_3 wq_421) rfl rfl rfl (by decide +kernel) ⟨(Nat.le_of_ble_eq_true rfl), (Nat.le_of_ble_eq_true rfl)⟩) rfl rfl (kEs_call hE hS hF) rfl rfl (Nat.le_of_ble_eq_true rfl) dX4_confused_39 hP hD hz) rfl (by decide) rfl rfl ?_
    refine k_iconst C (v := (0 : Int32)) dX4_confused_42 (by decide) ?_
    refine k_istore C (lv' := [(4, .int (0 : Int32)), (0, .ref a_this), (1, .int v1), (2, .int v2), (3, .int v3)]) dX4_confused_43 (by decide) rfl ?_
    obtain ⟨x5, hx5, h⟩ := bindE h
    refine k_lv (lv' := [(0, .ref a_this), (1, .int v1), (2, .int v2), (3, .int v3), (4, .int (0 : Int32))]) [1, 2, 3, 4, 0] rfl ?_
    refine s_M_confused_l45 C hE hx5 ?_
    refine k_iinc C (v := (v3 + (1 : Int32))) (lv' := [(3, .int (v3 + (1 : Int32))), (0, .ref a_this), (1, .int v1), (2, .int x5)]) dX4_confused_93 3 rfl rfl (by decide) rfl ?_
    refine k_goto C (tgt := 19) dX4_confused_96 (by decide) ?_
    refine k_lv (lv' := [(0, .ref a_this), (1, .int v1), (2, .int x5), (3, .int (v3 + (1 : Int32)))]) [1, 2, 3, 0] rfl ?_
    exact kc _ (Option.some.inj h).symm
set_option maxRecDepth 100000 in
set_option maxHeartbeats 4000000 in
theorem s_M_confused_l19 (C : kC p l e rm_M_confused s m args below meth c D (tyG cI cL cZ) A 5 cX4_confused yX4_confused.cls (Cond.code yX4_confused cX4_confused 5 (some .int) :: WS) (some .int)) {X : kX} (hE : kEs X A s) {a_this : Nat} {a_now : Nat} {a_kept : Nat} {a_trial : Nat} {a_shelves : Nat} {a_tape : Nat} {a_paths : Nat} {a_sounds : Nat} {a_volumes : Nat} {a_refusals : Nat} {a_now_stones : Nat} {a_now_kinds : Nat} {a_now_weights : Nat} {a_now_chances : Nat} {v1 : Int32} {v2 : Int32} {v3 : Int32} {c_isKept : Int32} {c_now_width : Int32} {c_now_rain : Int32} {c_now_ear : Int32} {c_now_walkers : Int32} {c_now_seed : Int32} {c_now_stones : (Nat → Int32)} {c_now_kinds : (Nat → Int32)} {c_now_weights : (Nat → Int32)} {c_sounds : (Nat → Int64)} {c_refusals : (Nat → Int32)} {x : (Int32 × (Nat → Int64))} (h : f_M_confused_l19 v1 c_now_width c_now_rain c_now_walkers c_now_stones c_now_kinds c_now_weights v2 v3 c_sounds = some x)
    (k0 : kW p l e rm_M_confused s m args below meth c D A 5 (cells_M_confused cI cL cZ a_this a_now a_kept a_trial a_shelves a_tape a_paths a_sounds a_volumes a_refusals a_now_stones a_now_kinds a_now_weights a_now_chances c_isKept c_now_width c_now_rain c_now_ear c_now_walkers c_now_seed c_now_stones c_now_kinds c_now_weights x.2 c_refusals) [(2, .int x.1)] Q 99 []) :
    kW p l e rm_M_confused s m args below meth c D A 5 (cells_M_confused cI cL cZ a_this a_now a_kept a_trial a_shelves a_tape a_paths a_sounds a_volumes a_refusals a_now_stones a_now_kinds a_now_weights a_now_chances c_isKept c_now_width c_now_rain c_now_ear c_now_walkers c_now_seed c_now_stones c_now_kinds c_now_weights c_sounds c_refusals) [(0, .ref a_this), (1, .int v1), (2, .int v2), (3, .int v3)] Q 19 [] := by
  unfold f_M_confused_l19 at h
  exact iter_W (body := fun s => f_M_confused_b19 v1 c_now_width c_now_rain c_now_walkers c_now_stones c_now_kinds c_now_weights s.1 s.2.1 s.2.2) (r := x) (T := fun sg => kW p l e rm_M_confused s m args below meth c D A 5 (cells_M_confused cI cL cZ a_this a_now a_kept a_trial a_shelves a_tape a_paths a_sounds a_volumes a_refusals a_now_stones a_now_kinds a_now_weights a_now_chances c_isKept c_now_width c_now_rain c_now_ear c_now_walkers c_now_seed c_now_stones c_now_kinds c_now_weights sg.2.2 c_refusals) [(0, .ref a_this), (1, .int v1), (2, .int sg.1), (3, .int sg.2.1)] Q 19 []) (fun sg y hy hc _ hr => s_M_confused_b19 C hE (v1 := v1) (v2 := sg.1) (v3 := sg.2.1) (c_isKept := c_isKept) (c_now_width := c_now_width) (c_now_rain := c_now_rain) (c_now_ear := c_now_ear) (c_now_walkers := c_now_walkers) (c_now_seed := c_now_seed) (c_now_stones := c_now_stones) (c_now_kinds := c_now_kinds) (c_now_weights := c_now_weights) (c_sounds := sg.2.2) (c_refusals := c_refusals) (x := y) hy hc (fun r e => by rw [hr r e]; exact k0)) FUEL (v2, v3, c_sounds) h
set_option maxRecDepth 100000 in
set_option maxHeartbeats 4000000 in
theorem s_M_confused (C : kC p l e rm_M_confused s m args below meth c D (tyG cI cL cZ) A 5 cX4_confused yX4_confused.cls (Cond.code yX4_confused cX4_confused 5 (some .int) :: WS) (some .int)) {X : kX} (hE : kEs X A s) {a_this : Nat} {a_now : Nat} {a_kept : Nat} {a_trial : Nat} {a_shelves : Nat} {a_tape : Nat} {a_paths : Nat} {a_sounds : Nat} {a_volumes : Nat} {a_refusals : Nat} {a_now_stones : Nat} {a_now_kinds : Nat} {a_now_weights : Nat} {a_now_chances : Nat} {v1 : Int32} {c_isKept : Int32} {c_now_width : Int32} {c_now_rain : Int32} {c_now_ear : Int32} {c_now_walkers : Int32} {c_now_seed : Int32} {c_now_stones : (Nat → Int32)} {c_now_kinds : (Nat → Int32)} {c_now_weights : (Nat → Int32)} {c_sounds : (Nat → Int64)} {c_refusals : (Nat → Int32)} {x : (Int32 × (Nat → Int64) × (Nat → Int32))} (h : f_M_confused v1 c_now_width c_now_rain c_now_walkers c_now_stones c_now_kinds c_now_weights c_sounds c_refusals = some x) :
    kW p l e rm_M_confused s m args below meth c D A 5 (cells_M_confused cI cL cZ a_this a_now a_kept a_trial a_shelves a_tape a_paths a_sounds a_volumes a_refusals a_now_stones a_now_kinds a_now_weights a_now_chances c_isKept c_now_width c_now_rain c_now_ear c_now_walkers c_now_seed c_now_stones c_now_kinds c_now_weights c_sounds c_refusals) [(0, .ref a_this), (1, .int v1)] (MQ below (kQi D A (cells_M_confused cI cL cZ a_this a_now a_kept a_trial a_shelves a_tape a_paths a_sounds a_volumes a_refusals a_now_stones a_now_kinds a_now_weights a_now_chances c_isKept c_now_width c_now_rain c_now_ear c_now_walkers c_now_seed c_now_stones c_now_kinds c_now_weights x.2.1 x.2.2) x.1) args s 0 0 A) 0 [] := by
  unfold f_M_confused at h
  refine k_aload_n C dX4_confused_0 0 rfl rfl ?_
  refine k_iload_n C dX4_confused_1 1 rfl rfl ?_
  obtain ⟨x1, hx1, h⟩ := bindE h
  refine kcallR_i C (wc := (cells_M_isFeet cI cL cZ a_this a_now a_kept a_trial a_shelves a_tape a_paths a_sounds a_volumes a_refusals a_now_stones a_now_kinds a_now_weights a_now_chances c_isKept c_now_width c_now_rain c_now_ear c_now_walkers c_now_seed)) (r := x1) [0, 1] (fun H locs ls hP hD hS hF hz => krunV C (q0 := 0) (ci := 4) (c_M_isFeet l D cI cL cZ H.size a_this a_now a_kept a_trial a_shelves a_tape a_paths a_sounds a_volumes a_refusals a_now_stones a_now_kinds a_now_weights a_now_chances v1 c_isKept c_now_width c_now_rain c_now_ear c_now_walkers c_now_seed x1 hx1) (cwV 1 C.2.2.2.2.1 (gV wq_69 wq_70 wq_71 wq_3 wq_68) rfl rfl rfl (by decide +kernel) ⟨(Nat.le_of_ble_eq_true rfl), (Nat.le_of_ble_eq_true rfl)⟩) rfl rfl kEnv_T rfl rfl (Nat.le_of_ble_eq_true rfl) dX4_confused_2 hP hD hz) rfl (by decide) ?_
  refine k_if_ne C (tgt := 15) dX4_confused_5 (by decide) (fun c_5 => ?_) (fun c_5 => ?_)
  · have h := ifF c_5 h
    refine k_iconst C (v := (0 : Int32)) dX4_confused_15 (by decide) ?_
    refine k_istore_n C (lv' := [(2, .int (0 : Int32)), (0, .ref a_this), (1, .int v1)]) dX4_confused_16 rfl (by decide) rfl ?_
    refine k_iconst C (v := (0 : Int32)) dX4_confused_17 (by decide) ?_
    refine k_istore_n C (lv' := [(3, .int (0 : Int32)), (2, .int (0 : Int32)), (0, .ref a_this), (1, .int v1)]) dX4_confused_18 rfl (by decide) rfl ?_
    obtain ⟨x6, hx6, h⟩ := bindE h
    refine k_lv (lv' := [(0, .ref a_this), (1, .int v1), (2, .int (0 : Int32)), (3, .int (0 : Int32))]) [2, 3, 1, 0] rfl ?_
    refine s_M_confused_l19 C hE hx6 ?_
    refine k_iload_n C dX4_confused_99 0 rfl rfl ?_
    obtain rfl := Option.some.inj h
    exact kret_i C rfl dX4_confused_100
  · have h := ifT c_5 h
    refine k_aload_n C dX4_confused_8 0 rfl rfl ?_
    refine k_bipush C (v := (-2 : Int32)) dX4_confused_9 (by decide) ?_
    obtain ⟨x7, hx7, h⟩ := bindE h
    refine kcallU_i C (wc := (cells_M_refuse cI cL cZ a_this a_now a_kept a_trial a_shelves a_tape a_paths a_sounds a_volumes a_refusals c_isKept c_refusals)) (w1 := (cells_M_refuse cI cL cZ a_this a_now a_kept a_trial a_shelves a_tape a_paths a_sounds a_volumes a_refusals c_isKept x7.2)) (ws' := (cells_M_confused cI cL cZ a_this a_now a_kept a_trial a_shelves a_tape a_paths a_sounds a_volumes a_refusals a_now_stones a_now_kinds a_now_weights a_now_chances c_isKept c_now_width c_now_rain c_now_ear c_now_walkers c_now_seed c_now_stones c_now_kinds c_now_weights c_sounds x7.2)) (r := x7.1) [0, 6] (fun H locs ls hP hD hS hF hz => krunV C (q0 := 0) (ci := 4) (c_M_refuse l D cI cL cZ H.size a_this a_now a_kept a_trial a_shelves a_tape a_paths a_sounds a_volumes a_refusals (-2 : Int32) c_isKept c_refusals x7 hx7) (cwV 1 C.2.2.2.2.1 (gV wq_12 wq_13 wq_14 wq_3 wq_11) rfl rfl rfl (by decide +kernel) ⟨(Nat.le_of_ble_eq_true rfl), (Nat.le_of_ble_eq_true rfl)⟩) rfl rfl kEnv_T rfl rfl (Nat.le_of_ble_eq_true rfl) dX4_confused_11 hP hD hz) rfl (by decide) rfl rfl ?_
    obtain rfl := Option.some.inj h
    exact kret_i C rfl dX4_confused_14
theorem c_M_confused (l : Launch) (D : va_G) (cI : ClassId) (cL : ClassId) (cZ : ClassId) (X : kX) (sz : Nat) (a_this : Nat) (a_now : Nat) (a_kept : Nat) (a_trial : Nat) (a_shelves : Nat) (a_tape : Nat) (a_paths : Nat) (a_sounds : Nat) (a_volumes : Nat) (a_refusals : Nat) (a_now_stones : Nat) (a_now_kinds : Nat) (a_now_weights : Nat) (a_now_chances : Nat) (v1 : Int32) (c_isKept : Int32) (c_now_width : Int32) (c_now_rain : Int32) (c_now_ear : Int32) (c_now_walkers : Int32) (c_now_seed : Int32) (c_now_stones : (Nat → Int32)) (c_now_kinds : (Nat → Int32)) (c_now_weights : (Nat → Int32)) (c_sounds : (Nat → Int64)) (c_refusals : (Nat → Int32)) (x : (Int32 × (Nat → Int64) × (Nat → Int32))) (h : f_M_confused v1 c_now_width c_now_rain c_now_walkers c_now_stones c_now_kinds c_now_weights c_sounds c_refusals = some x) :
    Met l yX4_confused (Cond.code yX4_confused cX4_confused 5 (some .int) :: WS) rm_M_confused (kP D (tyG cI cL cZ) (kEs X (va_A (cells_M_confused cI cL cZ a_this a_now a_kept a_trial a_shelves a_tape a_paths a_sounds a_volumes a_refusals a_now_stones a_now_kinds a_now_weights a_now_chances c_isKept c_now_width c_now_rain c_now_ear c_now_walkers c_now_seed c_now_stones c_now_kinds c_now_weights c_sounds c_refusals) sz)) [.ref a_this, .int v1] sz (cells_M_confused cI cL cZ a_this a_now a_kept a_trial a_shelves a_tape a_paths a_sounds a_volumes a_refusals a_now_stones a_now_kinds a_now_weights a_now_chances c_isKept c_now_width c_now_rain c_now_ear c_now_walkers c_now_seed c_now_stones c_now_kinds c_now_weights c_sounds c_refusals)) (kQi D (va_A (cells_M_confused cI cL cZ a_this a_now a_kept a_trial a_shelves a_tape a_paths a_sounds a_volumes a_refusals a_now_stones a_now_kinds a_now_weights a_now_chances c_isKept c_now_width c_now_rain c_now_ear c_now_walkers c_now_seed c_now_stones c_now_kinds c_now_weights c_sounds c_refusals) sz) (cells_M_confused cI cL cZ a_this a_now a_kept a_trial a_shelves a_tape a_paths a_sounds a_volumes a_refusals a_now_stones a_now_kinds a_now_weights a_now_chances c_isKept c_now_width c_now_rain c_now_ear c_now_walkers c_now_seed c_now_stones c_now_kinds c_now_weights x.2.1 x.2.2) x.1) 0 0 (va_A (cells_M_confused cI cL cZ a_this a_now a_kept a_trial a_shelves a_tape a_paths a_sounds a_volumes a_refusals a_now_stones a_now_kinds a_now_weights a_now_chances c_isKept c_now_width c_now_rain c_now_ear c_now_walkers c_now_seed c_now_stones c_now_kinds c_now_weights c_sounds c_refusals) sz) :=
  kmet (by decide) (Nat.le_of_ble_eq_true rfl) rfl (fun p e s m below meth c C hE => s_M_confused C hE h)
abbrev cells_D_allChances (cI : ClassId) (cL : ClassId) (cZ : ClassId) (a_this : Nat) (a_stones : Nat) (a_kinds : Nat) (a_weights : Nat) (a_chances : Nat) (c_width : Int32) (c_rain : Int32) (c_ear : Int32) (c_walkers : Int32) (c_seed : Int32) (c_chances : (Nat → Int32)) : va_W := [(a_this, .inr (0, [.ref a_stones, .ref a_kinds, .ref a_weights, .ref a_chances, .int c_width, .int c_rain, .int c_ear, .int c_walkers, .int c_seed])), (a_chances, .inl (cI, 8, .inl c_chances))]
abbrev rm_D_allChances : Room := { frames := 2, cells := 0, slots := 0, locals := 43 }
set_option maxRecDepth 100000 in
set_option maxHeartbeats 4000000 in
theorem s_D_allChances_b4 (C : kC p l e rm_D_allChances s m args below meth c D (tyG cI cL cZ) A 3 cX0_allChances yX0_allChances.cls (Cond.code yX0_allChances cX0_allChances 3 (some .int) :: WS) (some .int)) {X : kX} (hE : kEs X A s) {a_this : Nat} {a_stones : Nat} {a_kinds : Nat} {a_weights : Nat} {a_chances : Nat} {v1 : Int32} {v2 : Int32} {c_width : Int32} {c_rain : Int32} {c_ear : Int32} {c_walkers : Int32} {c_seed : Int32} {c_chances : (Nat → Int32)} {x : ((Int32 × Int32) ⊕ Int32)} (h : f_D_allChances_b4 c_walkers c_chances v1 v2 = some x)
    (kc : ∀ s', x = .inl s' → kW p l e rm_D_allChances s m args below meth c D A 3 (cells_D_allChances cI cL cZ a_this a_stones a_kinds a_weights a_chances c_width c_rain c_ear c_walkers c_seed c_chances) [(0, .ref a_this), (1, .int s'.1), (2, .int s'.2)] Q 4 [])
    (k0 : ∀ r, x = .inr r → kW p l e rm_D_allChances s m args below meth c D A 3 (cells_D_allChances cI cL cZ a_this a_stones a_kinds a_weights a_chances c_width c_rain c_ear c_walkers c_seed c_chances) [(1, .int r)] Q 26 []) :
    kW p l e rm_D_allChances s m args below meth c D A 3 (cells_D_allChances cI cL cZ a_this a_stones a_kinds a_weights a_chances c_width c_rain c_ear c_walkers c_seed c_chances) [(0, .ref a_this), (1, .int v1), (2, .int v2)] Q 4 [] := by
  unfold f_D_allChances_b4 at h
  refine k_iload_n C dX0_allChances_4 2 rfl rfl ?_
  refine k_aload_n C dX0_allChances_5 0 rfl rfl ?_
  refine k_get C (C0 := RX0) (T := TX0) (N := 9) (fun w h => List.mem_cons_of_mem _ (us_D w h)) 0 rfl rfl 7 (by decide) (List.mem_cons_of_mem _ wq_142) rfl rfl dX0_allChances_6 ?_
  refine k_icmp_ge C (tgt := 26) dX0_allChances_9 (by decide) (fun c_9 => ?_) (fun c_9 => ?_)
  · have h := ifT c_9 h
    refine k_lv (lv' := [(1, .int v1)]) [1] rfl ?_
    exact k0 _ (Option.some.inj h).symm
  · have h := ifF c_9 h
    refine k_iload_n C dX0_allChances_12 1 rfl rfl ?_
    refine k_aload_n C dX0_allChances_13 0 rfl rfl ?_
    refine k_iload_n C dX0_allChances_14 2 rfl rfl ?_
    obtain ⟨x1, hx1, h⟩ := bindE h
    refine kcallR_i C (wc := (cells_D_chanceOf cI cL cZ a_this a_stones a_kinds a_weights a_chances c_width c_rain c_ear c_walkers c_seed c_chances)) (r := x1) [0, 1] (fun H locs ls hP hD hS hF hz => krunV C (q0 := 0) (ci := 0) (c_D_chanceOf l D cI cL cZ X H.size a_this a_stones a_kinds a_weights a_chances v2 c_width c_rain c_ear c_walkers c_seed c_chances x1 hx1) (cwV 1 C.2.2.2.2.1 (gV wq_425 wq_116 wq_117 wq_81 wq_114) rfl rfl rfl (by decide +kernel) ⟨(Nat.le_of_ble_eq_true rfl), (Nat.le_of_ble_eq_true rfl)⟩) rfl rfl (kEs_call hE hS hF) rfl rfl (Nat.le_of_ble_eq_true rfl) dX0_allChances_15 hP hD hz) rfl (by decide) ?_
    refine k_iadd C dX0_allChances_18 ?_
    refine k_istore_n C (lv' := [(1, .int (v1 + x1)), (0, .ref a_this), (2, .int v2)]) dX0_allChances_19 rfl (by decide) rfl ?_
    refine k_iinc C (v := (v2 + (1 : Int32))) (lv' := [(2, .int (v2 + (1 : Int32))), (1, .int (v1 + x1)), (0, .ref a_this)]) dX0_allChances_20 2 rfl rfl (by decide) rfl ?_
    refine k_goto C (tgt := 4) dX0_allChances_23 (by decide) ?_
    refine k_lv (lv' := [(0, .ref a_this), (1, .int (v1 + x1)), (2, .int (v2 + (1 : Int32)))]) [2, 1, 0] rfl ?_
    exact kc _ (Option.some.inj h).symm
set_option maxRecDepth 100000 in
set_option maxHeartbeats 4000000 in
theorem s_D_allChances_l4 (C : kC p l e rm_D_allChances s m args below meth c D (tyG cI cL cZ) A 3 cX0_allChances yX0_allChances.cls (Cond.code yX0_allChances cX0_allChances 3 (some .int) :: WS) (some .int)) {X : kX} (hE : kEs X A s) {a_this : Nat} {a_stones : Nat} {a_kinds : Nat} {a_weights : Nat} {a_chances : Nat} {v1 : Int32} {v2 : Int32} {c_width : Int32} {c_rain : Int32} {c_ear : Int32} {c_walkers : Int32} {c_seed : Int32} {c_chances : (Nat → Int32)} {x : Int32} (h : f_D_allChances_l4 c_walkers c_chances v1 v2 = some x)
    (k0 : kW p l e rm_D_allChances s m args below meth c D A 3 (cells_D_allChances cI cL cZ a_this a_stones a_kinds a_weights a_chances c_width c_rain c_ear c_walkers c_seed c_chances) [(1, .int x)] Q 26 []) :
    kW p l e rm_D_allChances s m args below meth c D A 3 (cells_D_allChances cI cL cZ a_this a_stones a_kinds a_weights a_chances c_width c_rain c_ear c_walkers c_seed c_chances) [(0, .ref a_this), (1, .int v1), (2, .int v2)] Q 4 [] := by
  unfold f_D_allChances_l4 at h
  exact iter_W (body := fun s => f_D_allChances_b4 c_walkers c_chances s.1 s.2) (r := x) (T := fun sg => kW p l e rm_D_allChances s m args below meth c D A 3 (cells_D_allChances cI cL cZ a_this a_stones a_kinds a_weights a_chances c_width c_rain c_ear c_walkers c_seed c_chances) [(0, .ref a_this), (1, .int sg.1), (2, .int sg.2)] Q 4 []) (fun sg y hy hc _ hr => s_D_allChances_b4 C hE (v1 := sg.1) (v2 := sg.2) (c_width := c_width) (c_rain := c_rain) (c_ear := c_ear) (c_walkers := c_walkers) (c_seed := c_seed) (c_chances := c_chances) (x := y) hy hc (fun r e => by rw [hr r e]; exact k0)) FUEL (v1, v2) h
set_option maxRecDepth 100000 in
set_option maxHeartbeats 4000000 in
theorem s_D_allChances (C : kC p l e rm_D_allChances s m args below meth c D (tyG cI cL cZ) A 3 cX0_allChances yX0_allChances.cls (Cond.code yX0_allChances cX0_allChances 3 (some .int) :: WS) (some .int)) {X : kX} (hE : kEs X A s) {a_this : Nat} {a_stones : Nat} {a_kinds : Nat} {a_weights : Nat} {a_chances : Nat} {c_width : Int32} {c_rain : Int32} {c_ear : Int32} {c_walkers : Int32} {c_seed : Int32} {c_chances : (Nat → Int32)} {x : Int32} (h : f_D_allChances c_walkers c_chances = some x) :
    kW p l e rm_D_allChances s m args below meth c D A 3 (cells_D_allChances cI cL cZ a_this a_stones a_kinds a_weights a_chances c_width c_rain c_ear c_walkers c_seed c_chances) [(0, .ref a_this)] (MQ below (kQi D A (cells_D_allChances cI cL cZ a_this a_stones a_kinds a_weights a_chances c_width c_rain c_ear c_walkers c_seed c_chances) x) args s 0 0 A) 0 [] := by
  unfold f_D_allChances at h
  refine k_iconst C (v := (0 : Int32)) dX0_allChances_0 (by decide) ?_
  refine k_istore_n C (lv' := [(1, .int (0 : Int32)), (0, .ref a_this)]) dX0_allChances_1 rfl (by decide) rfl ?_
  refine k_iconst C (v := (0 : Int32)) dX0_allChances_2 (by decide) ?_
  refine k_istore_n C (lv' := [(2, .int (0 : Int32)), (1, .int (0 : Int32)), (0, .ref a_this)]) dX0_allChances_3 rfl (by decide) rfl ?_
  obtain ⟨x2, hx2, h⟩ := bindE h
  refine k_lv (lv' := [(0, .ref a_this), (1, .int (0 : Int32)), (2, .int (0 : Int32))]) [2, 1, 0] rfl ?_
  refine s_D_allChances_l4 C hE hx2 ?_
  refine k_iload_n C dX0_allChances_26 0 rfl rfl ?_
  obtain rfl := Option.some.inj h
  exact kret_i C rfl dX0_allChances_27
theorem c_D_allChances (l : Launch) (D : va_G) (cI : ClassId) (cL : ClassId) (cZ : ClassId) (X : kX) (sz : Nat) (a_this : Nat) (a_stones : Nat) (a_kinds : Nat) (a_weights : Nat) (a_chances : Nat) (c_width : Int32) (c_rain : Int32) (c_ear : Int32) (c_walkers : Int32) (c_seed : Int32) (c_chances : (Nat → Int32)) (x : Int32) (h : f_D_allChances c_walkers c_chances = some x) :
    Met l yX0_allChances (Cond.code yX0_allChances cX0_allChances 3 (some .int) :: WS) rm_D_allChances (kP D (tyG cI cL cZ) (kEs X (va_A (cells_D_allChances cI cL cZ a_this a_stones a_kinds a_weights a_chances c_width c_rain c_ear c_walkers c_seed c_chances) sz)) [.ref a_this] sz (cells_D_allChances cI cL cZ a_this a_stones a_kinds a_weights a_chances c_width c_rain c_ear c_walkers c_seed c_chances)) (kQi D (va_A (cells_D_allChances cI cL cZ a_this a_stones a_kinds a_weights a_chances c_width c_rain c_ear c_walkers c_seed c_chances) sz) (cells_D_allChances cI cL cZ a_this a_stones a_kinds a_weights a_chances c_width c_rain c_ear c_walkers c_seed c_chances) x) 0 0 (va_A (cells_D_allChances cI cL cZ a_this a_stones a_kinds a_weights a_chances c_width c_rain c_ear c_walkers c_seed c_chances) sz) :=
  kmet (by decide) (Nat.le_of_ble_eq_true rfl) rfl (fun p e s m below meth c C hE => s_D_allChances C hE h)
abbrev cells_M_odds (cI : ClassId) (cL : ClassId) (cZ : ClassId) (a_this : Nat) (a_now : Nat) (a_kept : Nat) (a_trial : Nat) (a_shelves : Nat) (a_tape : Nat) (a_paths : Nat) (a_sounds : Nat) (a_volumes : Nat) (a_refusals : Nat) (a_now_stones : Nat) (a_now_kinds : Nat) (a_now_weights : Nat) (a_now_chances : Nat) (c_isKept : Int32) (c_now_width : Int32) (c_now_rain : Int32) (c_now_ear : Int32) (c_now_walkers : Int32) (c_now_seed : Int32) (c_now_chances : (Nat → Int32)) (c_refusals : (Nat → Int32)) : va_W := [(a_this, .inr (4, [.ref a_now, .ref a_kept, .ref a_trial, .ref a_shelves, .ref a_tape, .ref a_paths, .ref a_sounds, .ref a_volumes, .ref a_refusals, .int c_isKept])), (a_now, .inr (0, [.ref a_now_stones, .ref a_now_kinds, .ref a_now_weights, .ref a_now_chances, .int c_now_width, .int c_now_rain, .int c_now_ear, .int c_now_walkers, .int c_now_seed])), (a_now_chances, .inl (cI, 8, .inl c_now_chances)), (a_refusals, .inl (cI, 5, .inl c_refusals))]
abbrev rm_M_odds : Room := { frames := 3, cells := 0, slots := 0, locals := 65 }
set_option maxRecDepth 100000 in
set_option maxHeartbeats 4000000 in
theorem s_M_odds (C : kC p l e rm_M_odds s m args below meth c D (tyG cI cL cZ) A 2 cX4_odds yX4_odds.cls (Cond.code yX4_odds cX4_odds 2 (some .int) :: WS) (some .int)) {X : kX} (hE : kEs X A s) {a_this : Nat} {a_now : Nat} {a_kept : Nat} {a_trial : Nat} {a_shelves : Nat} {a_tape : Nat} {a_paths : Nat} {a_sounds : Nat} {a_volumes : Nat} {a_refusals : Nat} {a_now_stones : Nat} {a_now_kinds : Nat} {a_now_weights : Nat} {a_now_chances : Nat} {v1 : Int32} {c_isKept : Int32} {c_now_width : Int32} {c_now_rain : Int32} {c_now_ear : Int32} {c_now_walkers : Int32} {c_now_seed : Int32} {c_now_chances : (Nat → Int32)} {c_refusals : (Nat → Int32)} {x : (Int32 × (Nat → Int32))} (h : f_M_odds v1 c_now_walkers c_now_chances c_refusals = some x) :
    kW p l e rm_M_odds s m args below meth c D A 2 (cells_M_odds cI cL cZ a_this a_now a_kept a_trial a_shelves a_tape a_paths a_sounds a_volumes a_refusals a_now_stones a_now_kinds a_now_weights a_now_chances c_isKept c_now_width c_now_rain c_now_ear c_now_walkers c_now_seed c_now_chances c_refusals) [(0, .ref a_this), (1, .int v1)] (MQ below (kQi D A (cells_M_odds cI cL cZ a_this a_now a_kept a_trial a_shelves a_tape a_paths a_sounds a_volumes a_refusals a_now_stones a_now_kinds a_now_weights a_now_chances c_isKept c_now_width c_now_rain c_now_ear c_now_walkers c_now_seed c_now_chances x.2) x.1) args s 0 0 A) 0 [] := by
  unfold f_M_odds at h
  refine k_aload_n C dX4_odds_0 0 rfl rfl ?_
  refine k_iload_n C dX4_odds_1 1 rfl rfl ?_
  obtain ⟨x1, hx1, h⟩ := bindE h
  refine kcallR_i C (wc := (cells_M_isFeet cI cL cZ a_this a_now a_kept a_trial a_shelves a_tape a_paths a_sounds a_volumes a_refusals a_now_stones a_now_kinds a_now_weights a_now_chances c_isKept c_now_width c_now_rain c_now_ear c_now_walkers c_now_seed)) (r := x1) [0, 1] (fun H locs ls hP hD hS hF hz => krunV C (q0 := 0) (ci := 4) (c_M_isFeet l D cI cL cZ H.size a_this a_now a_kept a_trial a_shelves a_tape a_paths a_sounds a_volumes a_refusals a_now_stones a_now_kinds a_now_weights a_now_chances v1 c_isKept c_now_width c_now_rain c_now_ear c_now_walkers c_now_seed x1 hx1) (cwV 1 C.2.2.2.2.1 (gV wq_69 wq_70 wq_71 wq_3 wq_68) rfl rfl rfl (by decide +kernel) ⟨(Nat.le_of_ble_eq_true rfl), (Nat.le_of_ble_eq_true rfl)⟩) rfl rfl kEnv_T rfl rfl (Nat.le_of_ble_eq_true rfl) dX4_odds_2 hP hD hz) rfl (by decide) ?_
  refine k_if_ne C (tgt := 15) dX4_odds_5 (by decide) (fun c_5 => ?_) (fun c_5 => ?_)
  · have h := ifF c_5 h
    refine k_aload_n C dX4_odds_15 0 rfl rfl ?_
    refine k_get C (C0 := RX4) (T := TX4) (N := 10) (fun w h => List.mem_cons_of_mem _ (us_M w h)) 0 rfl rfl 0 (by decide) (List.mem_cons_of_mem _ wq_62) rfl rfl dX4_odds_16 ?_
    refine k_iload_n C dX4_odds_19 1 rfl rfl ?_
    obtain ⟨x2, hx2, h⟩ := bindE h
    refine kcallR_i C (wc := (cells_D_chanceOf cI cL cZ a_now a_now_stones a_now_kinds a_now_weights a_now_chances c_now_width c_now_rain c_now_ear c_now_walkers c_now_seed c_now_chances)) (r := x2) [1, 2] (fun H locs ls hP hD hS hF hz => krunV C (q0 := 0) (ci := 0) (c_D_chanceOf l D cI cL cZ X H.size a_now a_now_stones a_now_kinds a_now_weights a_now_chances v1 c_now_width c_now_rain c_now_ear c_now_walkers c_now_seed c_now_chances x2 hx2) (cwV 1 C.2.2.2.2.1 (gV wq_115 wq_116 wq_117 wq_81 wq_114) rfl rfl rfl (by decide +kernel) ⟨(Nat.le_of_ble_eq_true rfl), (Nat.le_of_ble_eq_true rfl)⟩) rfl rfl (kEs_call hE hS hF) rfl rfl (Nat.le_of_ble_eq_true rfl) dX4_odds_20 hP hD hz) rfl (by decide) ?_
    refine k_aload_n C dX4_odds_23 0 rfl rfl ?_
    refine k_get C (C0 := RX4) (T := TX4) (N := 10) (fun w h => List.mem_cons_of_mem _ (us_M w h)) 0 rfl rfl 0 (by decide) (List.mem_cons_of_mem _ wq_62) rfl rfl dX4_odds_24 ?_
    obtain ⟨x3, hx3, h⟩ := bindE h
    refine kcallR_i C (wc := (cells_D_allChances cI cL cZ a_now a_now_stones a_now_kinds a_now_weights a_now_chances c_now_width c_now_rain c_now_ear c_now_walkers c_now_seed c_now_chances)) (r := x3) [1, 2] (fun H locs ls hP hD hS hF hz => krunV C (q0 := 0) (ci := 0) (c_D_allChances l D cI cL cZ X H.size a_now a_now_stones a_now_kinds a_now_weights a_now_chances c_now_width c_now_rain c_now_ear c_now_walkers c_now_seed c_now_chances x3 hx3) (cwV 0 C.2.2.2.2.1 (gV wq_427 wq_428 wq_429 wq_81 wq_426) rfl rfl rfl (by decide +kernel) ⟨(Nat.le_of_ble_eq_true rfl), (Nat.le_of_ble_eq_true rfl)⟩) rfl rfl (kEs_call hE hS hF) rfl rfl (Nat.le_of_ble_eq_true rfl) dX4_odds_27 hP hD hz) rfl (by decide) ?_
    obtain ⟨x4, hx4, h⟩ := bindE h
    refine kcallE_i C (r := x4) (fun H locs ls hP hD hS hF hz => krunS C (c_M_thousandths l D cI cL cZ H.size x2 x3 x4 hx4) (va_cwS 2 C.2.2.2.2.1 (gS wq_395 wq_396 wq_3 wq_394) rfl rfl rfl (by decide +kernel) ⟨(Nat.le_of_ble_eq_true rfl), (Nat.le_of_ble_eq_true rfl)⟩) kEnv_T rfl rfl (Nat.le_of_ble_eq_true rfl) dX4_odds_30 hP hD hz) ?_
    obtain rfl := Option.some.inj h
    exact kret_i C rfl dX4_odds_33
  · have h := ifT c_5 h
    refine k_aload_n C dX4_odds_8 0 rfl rfl ?_
    refine k_bipush C (v := (-2 : Int32)) dX4_odds_9 (by decide) ?_
    obtain ⟨x5, hx5, h⟩ := bindE h
    refine kcallU_i C (wc := (cells_M_refuse cI cL cZ a_this a_now a_kept a_trial a_shelves a_tape a_paths a_sounds a_volumes a_refusals c_isKept c_refusals)) (w1 := (cells_M_refuse cI cL cZ a_this a_now a_kept a_trial a_shelves a_tape a_paths a_sounds a_volumes a_refusals c_isKept x5.2)) (ws' := (cells_M_odds cI cL cZ a_this a_now a_kept a_trial a_shelves a_tape a_paths a_sounds a_volumes a_refusals a_now_stones a_now_kinds a_now_weights a_now_chances c_isKept c_now_width c_now_rain c_now_ear c_now_walkers c_now_seed c_now_chances x5.2)) (r := x5.1) [0, 3] (fun H locs ls hP hD hS hF hz => krunV C (q0 := 0) (ci := 4) (c_M_refuse l D cI cL cZ H.size a_this a_now a_kept a_trial a_shelves a_tape a_paths a_sounds a_volumes a_refusals (-2 : Int32) c_isKept c_refusals x5 hx5) (cwV 1 C.2.2.2.2.1 (gV wq_12 wq_13 wq_14 wq_3 wq_11) rfl rfl rfl (by decide +kernel) ⟨(Nat.le_of_ble_eq_true rfl), (Nat.le_of_ble_eq_true rfl)⟩) rfl rfl kEnv_T rfl rfl (Nat.le_of_ble_eq_true rfl) dX4_odds_11 hP hD hz) rfl (by decide) rfl rfl ?_
    obtain rfl := Option.some.inj h
    exact kret_i C rfl dX4_odds_14

variable {p : Program} {l : Launch} {e : Env} {s : State} {m : MethodId} {args : Array Value} {below : List Frame} {meth : Method} {c : Code} {D : va_G} {A : Nat → Prop} {cI cL cZ : ClassId} {Q : State → Prop}
set_option maxRecDepth 100000 in
set_option maxHeartbeats 4000000 in
theorem s_P_markOpen_l14 (C : kC p l e rm_P_markOpen s m args below meth c D (tyG cI cL cZ) A 4 cX1_markOpen yX1_markOpen.cls (Cond.code yX1_markOpen cX1_markOpen 4 none :: WS) none) {X : kX} (hE : kEs X A s) {a_this : Nat} {a_steps : Nat} {a_rest : Nat} {a_counts : Nat} {a_way : Nat} {a_open : Nat} {a_turnable : Nat} {a_turned : Nat} {v1 : Int32} {v2 : Int32} {v3 : Int32} {c_width : Int32} {c_steps : (Nat → Int32)} {c_open : (Nat → Int32)} {x : Int32} (h : f_P_markOpen_l14 v1 c_width c_steps v2 v3 = some x)
    (k0 : kW p l e rm_P_markOpen s m args below meth c D A 4 (cells_P_markOpen cI cL cZ a_this a_steps a_rest a_counts a_way a_open a_turnable a_turned c_width c_steps c_open) [(0, .ref a_this), (1, .int v1), (2, .int x)] Q 52 []) :
    kW p l e rm_P_markOpen s m args below meth c D A 4 (cells_P_markOpen cI cL cZ a_this a_steps a_rest a_counts a_way a_open a_turnable a_turned c_width c_steps c_open) [(0, .ref a_this), (1, .int v1), (2, .int v2), (3, .int v3)] Q 14 [] := by
  unfold f_P_markOpen_l14 at h
  exact iter_W (body := fun s => f_P_markOpen_b14 v1 c_width c_steps s.1 s.2) (r := x) (T := fun sg => kW p l e rm_P_markOpen s m args below meth c D A 4 (cells_P_markOpen cI cL cZ a_this a_steps a_rest a_counts a_way a_open a_turnable a_turned c_width c_steps c_open) [(0, .ref a_this), (1, .int v1), (2, .int sg.1), (3, .int sg.2)] Q 14 []) (fun sg y hy hc _ hr => s_P_markOpen_b14 C hE (v1 := v1) (v2 := sg.1) (v3 := sg.2) (c_width := c_width) (c_steps := c_steps) (c_open := c_open) (x := y) hy hc (fun r e => by rw [hr r e]; exact k0)) FUEL (v2, v3) h
set_option maxRecDepth 100000 in
set_option maxHeartbeats 4000000 in
theorem s_P_markOpen_b2 (C : kC p l e rm_P_markOpen s m args below meth c D (tyG cI cL cZ) A 4 cX1_markOpen yX1_markOpen.cls (Cond.code yX1_markOpen cX1_markOpen 4 none :: WS) none) {X : kX} (hE : kEs X A s) {a_this : Nat} {a_steps : Nat} {a_rest : Nat} {a_counts : Nat} {a_way : Nat} {a_open : Nat} {a_turnable : Nat} {a_turned : Nat} {v1 : Int32} {c_width : Int32} {c_steps : (Nat → Int32)} {c_open : (Nat → Int32)} {x : ((Int32 × (Nat → Int32)) ⊕ (Nat → Int32))} (h : f_P_markOpen_b2 c_width c_steps v1 c_open = some x)
    (kc : ∀ s', x = .inl s' → kW p l e rm_P_markOpen s m args below meth c D A 4 (cells_P_markOpen cI cL cZ a_this a_steps a_rest a_counts a_way a_open a_turnable a_turned c_width c_steps s'.2) [(0, .ref a_this), (1, .int s'.1)] Q 2 [])
    (k0 : ∀ r, x = .inr r → kW p l e rm_P_markOpen s m args below meth c D A 4 (cells_P_markOpen cI cL cZ a_this a_steps a_rest a_counts a_way a_open a_turnable a_turned c_width c_steps r) [] Q 65 []) :
    kW p l e rm_P_markOpen s m args below meth c D A 4 (cells_P_markOpen cI cL cZ a_this a_steps a_rest a_counts a_way a_open a_turnable a_turned c_width c_steps c_open) [(0, .ref a_this), (1, .int v1)] Q 2 [] := by
  unfold f_P_markOpen_b2 at h
  refine k_iload_n C dX1_markOpen_2 1 rfl rfl ?_
  refine k_aload_n C dX1_markOpen_3 0 rfl rfl ?_
  obtain ⟨x1, hx1, h⟩ := bindE h
  refine kcallR_i C (wc := (cells_P_length cI cL cZ a_this a_steps a_rest a_counts a_way a_open a_turnable a_turned c_width)) (r := x1) [0] (fun H locs ls hP hD hS hF hz => krunV C (q0 := 0) (ci := 1) (c_P_length l D cI cL cZ H.size a_this a_steps a_rest a_counts a_way a_open a_turnable a_turned c_width x1 hx1) (cwV 0 C.2.2.2.2.1 (gV wq_271 wq_272 wq_273 wq_267 wq_270) rfl rfl rfl (by decide +kernel) ⟨(Nat.le_of_ble_eq_true rfl), (Nat.le_of_ble_eq_true rfl)⟩) rfl rfl kEnv_T rfl rfl (Nat.le_of_ble_eq_true rfl) dX1_markOpen_4 hP hD hz) rfl (by decide) ?_
  refine k_icmp_ge C (tgt := 65) dX1_markOpen_7 (by decide) (fun c_7 => ?_) (fun c_7 => ?_)
  · have h := ifT c_7 h
    refine k_lv (lv' := []) [] rfl ?_
    exact k0 _ (Option.some.inj h).symm
  · have h := ifF c_7 h
    refine k_iconst C (v := (0 : Int32)) dX1_markOpen_10 (by decide) ?_
    refine k_istore_n C (lv' := [(2, .int (0 : Int32)), (0, .ref a_this), (1, .int v1)]) dX1_markOpen_11 rfl (by decide) rfl ?_
    refine k_iconst C (v := (0 : Int32)) dX1_markOpen_12 (by decide) ?_
    refine k_istore_n C (lv' := [(3, .int (0 : Int32)), (2, .int (0 : Int32)), (0, .ref a_this), (1, .int v1)]) dX1_markOpen_13 rfl (by decide) rfl ?_
    obtain ⟨x5, hx5, h⟩ := bindE h
    refine k_lv (lv' := [(0, .ref a_this), (1, .int v1), (2, .int (0 : Int32)), (3, .int (0 : Int32))]) [2, 3, 1, 0] rfl ?_
    refine s_P_markOpen_l14 C hE hx5 ?_
    refine k_aload_n C dX1_markOpen_52 0 rfl rfl ?_
    refine k_get C (C0 := RX1) (T := TX1) (N := 8) (fun w h => List.mem_cons_of_mem _ (us_P w h)) 0 rfl rfl 4 (by decide) (List.mem_cons_of_mem _ wq_341) rfl rfl dX1_markOpen_53 ?_
    refine k_iload_n C dX1_markOpen_56 1 rfl rfl ?_
    refine k_iload_n C dX1_markOpen_57 2 rfl rfl ?_
    obtain ⟨x6, hx6, h⟩ := bindE h
    refine k_iast C 2 0 (ws' := (cells_P_markOpen cI cL cZ a_this a_steps a_rest a_counts a_way a_open a_turnable a_turned c_width c_steps x6)) rfl rfl hx6 rfl dX1_markOpen_58 ?_
    refine k_iinc C (v := (v1 + (1 : Int32))) (lv' := [(1, .int (v1 + (1 : Int32))), (0, .ref a_this), (2, .int x5)]) dX1_markOpen_59 1 rfl rfl (by decide) rfl ?_
    refine k_goto C (tgt := 2) dX1_markOpen_62 (by decide) ?_
    refine k_lv (lv' := [(0, .ref a_this), (1, .int (v1 + (1 : Int32)))]) [1, 0] rfl ?_
    exact kc _ (Option.some.inj h).symm
set_option maxRecDepth 100000 in
set_option maxHeartbeats 4000000 in
theorem s_P_markOpen_l2 (C : kC p l e rm_P_markOpen s m args below meth c D (tyG cI cL cZ) A 4 cX1_markOpen yX1_markOpen.cls (Cond.code yX1_markOpen cX1_markOpen 4 none :: WS) none) {X : kX} (hE : kEs X A s) {a_this : Nat} {a_steps : Nat} {a_rest : Nat} {a_counts : Nat} {a_way : Nat} {a_open : Nat} {a_turnable : Nat} {a_turned : Nat} {v1 : Int32} {c_width : Int32} {c_steps : (Nat → Int32)} {c_open : (Nat → Int32)} {x : (Nat → Int32)} (h : f_P_markOpen_l2 c_width c_steps v1 c_open = some x)
    (k0 : kW p l e rm_P_markOpen s m args below meth c D A 4 (cells_P_markOpen cI cL cZ a_this a_steps a_rest a_counts a_way a_open a_turnable a_turned c_width c_steps x) [] Q 65 []) :
    kW p l e rm_P_markOpen s m args below meth c D A 4 (cells_P_markOpen cI cL cZ a_this a_steps a_rest a_counts a_way a_open a_turnable a_turned c_width c_steps c_open) [(0, .ref a_this), (1, .int v1)] Q 2 [] := by
  unfold f_P_markOpen_l2 at h
  exact iter_W (body := fun s => f_P_markOpen_b2 c_width c_steps s.1 s.2) (r := x) (T := fun sg => kW p l e rm_P_markOpen s m args below meth c D A 4 (cells_P_markOpen cI cL cZ a_this a_steps a_rest a_counts a_way a_open a_turnable a_turned c_width c_steps sg.2) [(0, .ref a_this), (1, .int sg.1)] Q 2 []) (fun sg y hy hc _ hr => s_P_markOpen_b2 C hE (v1 := sg.1) (c_width := c_width) (c_steps := c_steps) (c_open := sg.2) (x := y) hy hc (fun r e => by rw [hr r e]; exact k0)) FUEL (v1, c_open) h
set_option maxRecDepth 100000 in
set_option maxHeartbeats 4000000 in
theorem s_P_markOpen (C : kC p l e rm_P_markOpen s m args below meth c D (tyG cI cL cZ) A 4 cX1_markOpen yX1_markOpen.cls (Cond.code yX1_markOpen cX1_markOpen 4 none :: WS) none) {X : kX} (hE : kEs X A s) {a_this : Nat} {a_steps : Nat} {a_rest : Nat} {a_counts : Nat} {a_way : Nat} {a_open : Nat} {a_turnable : Nat} {a_turned : Nat} {c_width : Int32} {c_steps : (Nat → Int32)} {c_open : (Nat → Int32)} {x : (Nat → Int32)} (h : f_P_markOpen c_width c_steps c_open = some x) :
    kW p l e rm_P_markOpen s m args below meth c D A 4 (cells_P_markOpen cI cL cZ a_this a_steps a_rest a_counts a_way a_open a_turnable a_turned c_width c_steps c_open) [(0, .ref a_this)] (MQ below (kQv D A (cells_P_markOpen cI cL cZ a_this a_steps a_rest a_counts a_way a_open a_turnable a_turned c_width c_steps x)) args s 0 0 A) 0 [] := by
  unfold f_P_markOpen at h
  refine k_iconst C (v := (0 : Int32)) dX1_markOpen_0 (by decide) ?_
  refine k_istore_n C (lv' := [(1, .int (0 : Int32)), (0, .ref a_this)]) dX1_markOpen_1 rfl (by decide) rfl ?_
  obtain ⟨x7, hx7, h⟩ := bindE h
  refine k_lv (lv' := [(0, .ref a_this), (1, .int (0 : Int32))]) [1, 0] rfl ?_
  refine s_P_markOpen_l2 C hE hx7 ?_
  obtain rfl := Option.some.inj h
  exact kret_v C rfl dX1_markOpen_65
theorem c_P_markOpen (l : Launch) (D : va_G) (cI : ClassId) (cL : ClassId) (cZ : ClassId) (X : kX) (sz : Nat) (a_this : Nat) (a_steps : Nat) (a_rest : Nat) (a_counts : Nat) (a_way : Nat) (a_open : Nat) (a_turnable : Nat) (a_turned : Nat) (c_width : Int32) (c_steps : (Nat → Int32)) (c_open : (Nat → Int32)) (x : (Nat → Int32)) (h : f_P_markOpen c_width c_steps c_open = some x) :
    Met l yX1_markOpen (Cond.code yX1_markOpen cX1_markOpen 4 none :: WS) rm_P_markOpen (kP D (tyG cI cL cZ) (kEs X (va_A (cells_P_markOpen cI cL cZ a_this a_steps a_rest a_counts a_way a_open a_turnable a_turned c_width c_steps c_open) sz)) [.ref a_this] sz (cells_P_markOpen cI cL cZ a_this a_steps a_rest a_counts a_way a_open a_turnable a_turned c_width c_steps c_open)) (kQv D (va_A (cells_P_markOpen cI cL cZ a_this a_steps a_rest a_counts a_way a_open a_turnable a_turned c_width c_steps c_open) sz) (cells_P_markOpen cI cL cZ a_this a_steps a_rest a_counts a_way a_open a_turnable a_turned c_width c_steps x)) 0 0 (va_A (cells_P_markOpen cI cL cZ a_this a_steps a_rest a_counts a_way a_open a_turnable a_turned c_width c_steps c_open) sz) :=
  kmet (by decide) (Nat.le_of_ble_eq_true rfl) rfl (fun p e s m below meth c C hE => s_P_markOpen C hE h)
abbrev cells_P_stepOn (cI : ClassId) (cL : ClassId) (cZ : ClassId) (a_this : Nat) (a_steps : Nat) (a_rest : Nat) (a_counts : Nat) (a_way : Nat) (a_open : Nat) (a_turnable : Nat) (a_turned : Nat) (c_width : Int32) (c_steps : (Nat → Int32)) : va_W := [(a_this, .inr (1, [.ref a_steps, .ref a_rest, .ref a_counts, .ref a_way, .ref a_open, .ref a_turnable, .ref a_turned, .int c_width])), (a_steps, .inl (cI, 36, .inl c_steps))]
abbrev rm_P_stepOn : Room := { frames := 1, cells := 0, slots := 0, locals := 22 }
set_option maxRecDepth 100000 in
set_option maxHeartbeats 4000000 in
theorem s_P_stepOn (C : kC p l e rm_P_stepOn s m args below meth c D (tyG cI cL cZ) A 2 cX1_stepOn yX1_stepOn.cls (Cond.code yX1_stepOn cX1_stepOn 2 (some .int) :: WS) (some .int)) {X : kX} (hE : kEs X A s) {a_this : Nat} {a_steps : Nat} {a_rest : Nat} {a_counts : Nat} {a_way : Nat} {a_open : Nat} {a_turnable : Nat} {a_turned : Nat} {v1 : Int32} {c_width : Int32} {c_steps : (Nat → Int32)} {x : Int32} (h : f_P_stepOn v1 c_steps = some x) :
    kW p l e rm_P_stepOn s m args below meth c D A 2 (cells_P_stepOn cI cL cZ a_this a_steps a_rest a_counts a_way a_open a_turnable a_turned c_width c_steps) [(0, .ref a_this), (1, .int v1)] (MQ below (kQi D A (cells_P_stepOn cI cL cZ a_this a_steps a_rest a_counts a_way a_open a_turnable a_turned c_width c_steps) x) args s 0 0 A) 0 [] := by
  unfold f_P_stepOn at h
  refine k_iload_n C dX1_stepOn_0 1 rfl rfl ?_
  refine k_iconst C (v := (0 : Int32)) dX1_stepOn_1 (by decide) ?_
  refine k_bipush C (v := (35 : Int32)) dX1_stepOn_2 (by decide) ?_
  obtain ⟨x1, hx1, h⟩ := bindE h
  refine kcallE_i C (r := x1) (fun H locs ls hP hD hS hF hz => krunSN C (c_M_isWithin l D cI cL cZ H.size v1 (0 : Int32) (35 : Int32) x1 hx1) ⟨va_cnB 3 C.2.2.2.2.1 (gW wq_0) rfl rfl rfl (hE.2.2.2.2.2.2.2 (RX1, 48, yX4_isWithin) (by decide +kernel)) (C.2.2.2.2.1 _ (List.mem_cons_of_mem _ wq_3)) (by decide +kernel) ⟨(Nat.le_of_ble_eq_true rfl), (Nat.le_of_ble_eq_true rfl)⟩, C.2.2.2.2.1 _ (List.mem_cons_of_mem _ wq_2), trivial⟩ kEnv_T rfl rfl (Nat.le_of_ble_eq_true rfl) dX1_stepOn_4 hP hD hz) ?_
  refine k_if_eq C (tgt := 19) dX1_stepOn_7 (by decide) (fun c_7 => ?_) (fun c_7 => ?_)
  · have h := ifT c_7 h
    refine k_iconst C (v := (0 : Int32)) dX1_stepOn_19 (by decide) ?_
    obtain rfl := Option.some.inj h
    exact kret_i C rfl dX1_stepOn_20
  · have h := ifF c_7 h
    refine k_aload_n C dX1_stepOn_10 0 rfl rfl ?_
    refine k_get C (C0 := RX1) (T := TX1) (N := 8) (fun w h => List.mem_cons_of_mem _ (us_P w h)) 0 rfl rfl 0 (by decide) (List.mem_cons_of_mem _ wq_256) rfl rfl dX1_stepOn_11 ?_
    refine k_iload_n C dX1_stepOn_14 1 rfl rfl ?_
    obtain ⟨x2, hx2, h⟩ := bindE h
    refine k_iald C 1 0 rfl rfl hx2 dX1_stepOn_15 ?_
    refine k_goto C (tgt := 20) dX1_stepOn_16 (by decide) ?_
    obtain rfl := Option.some.inj h
    exact kret_i C rfl dX1_stepOn_20
theorem c_P_stepOn (l : Launch) (D : va_G) (cI : ClassId) (cL : ClassId) (cZ : ClassId) (X : kX) (sz : Nat) (a_this : Nat) (a_steps : Nat) (a_rest : Nat) (a_counts : Nat) (a_way : Nat) (a_open : Nat) (a_turnable : Nat) (a_turned : Nat) (v1 : Int32) (c_width : Int32) (c_steps : (Nat → Int32)) (x : Int32) (h : f_P_stepOn v1 c_steps = some x) :
    Met l yX1_stepOn (Cond.code yX1_stepOn cX1_stepOn 2 (some .int) :: WS) rm_P_stepOn (kP D (tyG cI cL cZ) (kEs X (va_A (cells_P_stepOn cI cL cZ a_this a_steps a_rest a_counts a_way a_open a_turnable a_turned c_width c_steps) sz)) [.ref a_this, .int v1] sz (cells_P_stepOn cI cL cZ a_this a_steps a_rest a_counts a_way a_open a_turnable a_turned c_width c_steps)) (kQi D (va_A (cells_P_stepOn cI cL cZ a_this a_steps a_rest a_counts a_way a_open a_turnable a_turned c_width c_steps) sz) (cells_P_stepOn cI cL cZ a_this a_steps a_rest a_counts a_way a_open a_turnable a_turned c_width c_steps) x) 0 0 (va_A (cells_P_stepOn cI cL cZ a_this a_steps a_rest a_counts a_way a_open a_turnable a_turned c_width c_steps) sz) :=
  kmet (by decide) (Nat.le_of_ble_eq_true rfl) rfl (fun p e s m below meth c C hE => s_P_stepOn C hE h)
abbrev cells_D_raisedStep (cI : ClassId) (cL : ClassId) (cZ : ClassId) (a_this : Nat) (a_stones : Nat) (a_kinds : Nat) (a_weights : Nat) (a_chances : Nat) (c_width : Int32) (c_rain : Int32) (c_ear : Int32) (c_walkers : Int32) (c_seed : Int32) (c_kinds : (Nat → Int32)) (c_weights : (Nat → Int32)) : va_W := [(a_this, .inr (0, [.ref a_stones, .ref a_kinds, .ref a_weights, .ref a_chances, .int c_width, .int c_rain, .int c_ear, .int c_walkers, .int c_seed])), (a_kinds, .inl (cI, 8, .inl c_kinds)), (a_weights, .inl (cI, 8, .inl c_weights))]
abbrev rm_D_raisedStep : Room := { frames := 2, cells := 0, slots := 0, locals := 58 }
set_option maxRecDepth 100000 in
set_option maxHeartbeats 4000000 in
theorem s_D_raisedStep (C : kC p l e rm_D_raisedStep s m args below meth c D (tyG cI cL cZ) A 3 cX0_raisedStep yX0_raisedStep.cls (Cond.code yX0_raisedStep cX0_raisedStep 3 (some .int) :: WS) (some .int)) {X : kX} (hE : kEs X A s) {a_this : Nat} {a_stones : Nat} {a_kinds : Nat} {a_weights : Nat} {a_chances : Nat} {v1 : Int32} {v2 : Int32} {c_width : Int32} {c_rain : Int32} {c_ear : Int32} {c_walkers : Int32} {c_seed : Int32} {c_kinds : (Nat → Int32)} {c_weights : (Nat → Int32)} {x : Int32} (h : f_D_raisedStep v1 v2 c_width c_rain c_kinds c_weights = some x) :
    kW p l e rm_D_raisedStep s m args below meth c D A 3 (cells_D_raisedStep cI cL cZ a_this a_stones a_kinds a_weights a_chances c_width c_rain c_ear c_walkers c_seed c_kinds c_weights) [(0, .ref a_this), (1, .int v1), (2, .int v2)] (MQ below (kQi D A (cells_D_raisedStep cI cL cZ a_this a_stones a_kinds a_weights a_chances c_width c_rain c_ear c_walkers c_seed c_kinds c_weights) x) args s 0 0 A) 0 [] := by
  unfold f_D_raisedStep at h
  refine k_aload_n C dX0_raisedStep_0 0 rfl rfl ?_
  refine k_iload_n C dX0_raisedStep_1 1 rfl rfl ?_
  obtain ⟨x1, hx1, h⟩ := bindE h
  refine kcallR_i C (wc := (cells_D_kindOf cI cL cZ a_this a_stones a_kinds a_weights a_chances c_width c_rain c_ear c_walkers c_seed c_kinds)) (r := x1) [0, 1] (fun H locs ls hP hD hS hF hz => krunV C (q0 := 0) (ci := 0) (c_D_kindOf l D cI cL cZ X H.size a_this a_stones a_kinds a_weights a_chances v1 c_width c_rain c_ear c_walkers c_seed c_kinds x1 hx1) (cwV 1 C.2.2.2.2.1 (gV wq_94 wq_95 wq_96 wq_72 wq_93) rfl rfl rfl (by decide +kernel) ⟨(Nat.le_of_ble_eq_true rfl), (Nat.le_of_ble_eq_true rfl)⟩) rfl rfl (kEs_call hE hS hF) rfl rfl (Nat.le_of_ble_eq_true rfl) dX0_raisedStep_2 hP hD hz) rfl (by decide) ?_
  refine k_aload_n C dX0_raisedStep_5 0 rfl rfl ?_
  refine k_iload_n C dX0_raisedStep_6 1 rfl rfl ?_
  obtain ⟨x2, hx2, h⟩ := bindE h
  refine kcallR_i C (wc := (cells_D_weightOf cI cL cZ a_this a_stones a_kinds a_weights a_chances c_width c_rain c_ear c_walkers c_seed c_weights)) (r := x2) [0, 2] (fun H locs ls hP hD hS hF hz => krunV C (q0 := 0) (ci := 0) (c_D_weightOf l D cI cL cZ X H.size a_this a_stones a_kinds a_weights a_chances v1 c_width c_rain c_ear c_walkers c_seed c_weights x2 hx2) (cwV 1 C.2.2.2.2.1 (gV wq_98 wq_99 wq_100 wq_72 wq_97) rfl rfl rfl (by decide +kernel) ⟨(Nat.le_of_ble_eq_true rfl), (Nat.le_of_ble_eq_true rfl)⟩) rfl rfl (kEs_call hE hS hF) rfl rfl (Nat.le_of_ble_eq_true rfl) dX0_raisedStep_7 hP hD hz) rfl (by decide) ?_
  refine k_iconst C (v := (0 : Int32)) dX0_raisedStep_10 (by decide) ?_
  refine k_bipush C (v := (9 : Int32)) dX0_raisedStep_11 (by decide) ?_
  refine k_aload_n C dX0_raisedStep_13 0 rfl rfl ?_
  refine k_get C (C0 := RX0) (T := TX0) (N := 9) (fun w h => List.mem_cons_of_mem _ (us_D w h)) 0 rfl rfl 5 (by decide) (List.mem_cons_of_mem _ wq_108) rfl rfl dX0_raisedStep_14 ?_
  refine k_isub C dX0_raisedStep_17 ?_
  refine k_mmax C (List.mem_cons_of_mem _ wq_90) (List.mem_cons_of_mem _ wq_91) (List.mem_cons_of_mem _ wq_65) (List.mem_cons_of_mem _ wq_92) (Nat.le_of_ble_eq_true rfl) (Nat.le_of_ble_eq_true rfl) dX0_raisedStep_18 ?_
  refine k_aload_n C dX0_raisedStep_21 0 rfl rfl ?_
  refine k_iload_n C dX0_raisedStep_22 2 rfl rfl ?_
  obtain ⟨x3, hx3, h⟩ := bindE h
  refine kcallR_i C (wc := (cells_D_rowOf cI cL cZ a_this a_stones a_kinds a_weights a_chances c_width c_rain c_ear c_walkers c_seed)) (r := x3) [0] (fun H locs ls hP hD hS hF hz => krunV C (q0 := 0) (ci := 0) (c_D_rowOf l D cI cL cZ H.size a_this a_stones a_kinds a_weights a_chances v2 c_width c_rain c_ear c_walkers c_seed x3 hx3) (cwV 1 C.2.2.2.2.1 (gV wq_253 wq_254 wq_255 wq_72 wq_252) rfl rfl rfl (by decide +kernel) ⟨(Nat.le_of_ble_eq_true rfl), (Nat.le_of_ble_eq_true rfl)⟩) rfl rfl kEnv_T rfl rfl (Nat.le_of_ble_eq_true rfl) dX0_raisedStep_23 hP hD hz) rfl (by decide) ?_
  obtain ⟨x4, hx4, h⟩ := bindE h
  refine kcallE_i C (r := x4) (fun H locs ls hP hD hS hF hz => krunS C (c_D_stepBy l D cI cL cZ H.size x1 x2 (imax (0 : Int32) ((9 : Int32) - c_rain)) x3 x4 hx4) (va_cwS 4 C.2.2.2.2.1 (gS wq_106 wq_107 wq_72 wq_105) rfl rfl rfl (by decide +kernel) ⟨(Nat.le_of_ble_eq_true rfl), (Nat.le_of_ble_eq_true rfl)⟩) kEnv_T rfl rfl (Nat.le_of_ble_eq_true rfl) dX0_raisedStep_26 hP hD hz) ?_
  obtain rfl := Option.some.inj h
  exact kret_i C rfl dX0_raisedStep_29
theorem c_D_raisedStep (l : Launch) (D : va_G) (cI : ClassId) (cL : ClassId) (cZ : ClassId) (X : kX) (sz : Nat) (a_this : Nat) (a_stones : Nat) (a_kinds : Nat) (a_weights : Nat) (a_chances : Nat) (v1 : Int32) (v2 : Int32) (c_width : Int32) (c_rain : Int32) (c_ear : Int32) (c_walkers : Int32) (c_seed : Int32) (c_kinds : (Nat → Int32)) (c_weights : (Nat → Int32)) (x : Int32) (h : f_D_raisedStep v1 v2 c_width c_rain c_kinds c_weights = some x) :
    Met l yX0_raisedStep (Cond.code yX0_raisedStep cX0_raisedStep 3 (some .int) :: WS) rm_D_raisedStep (kP D (tyG cI cL cZ) (kEs X (va_A (cells_D_raisedStep cI cL cZ a_this a_stones a_kinds a_weights a_chances c_width c_rain c_ear c_walkers c_seed c_kinds c_weights) sz)) [.ref a_this, .int v1, .int v2] sz (cells_D_raisedStep cI cL cZ a_this a_stones a_kinds a_weights a_chances c_width c_rain c_ear c_walkers c_seed c_kinds c_weights)) (kQi D (va_A (cells_D_raisedStep cI cL cZ a_this a_stones a_kinds a_weights a_chances c_width c_rain c_ear c_walkers c_seed c_kinds c_weights) sz) (cells_D_raisedStep cI cL cZ a_this a_stones a_kinds a_weights a_chances c_width c_rain c_ear c_walkers c_seed c_kinds c_weights) x) 0 0 (va_A (cells_D_raisedStep cI cL cZ a_this a_stones a_kinds a_weights a_chances c_width c_rain c_ear c_walkers c_seed c_kinds c_weights) sz) :=
  kmet (by decide) (Nat.le_of_ble_eq_true rfl) rfl (fun p e s m below meth c C hE => s_D_raisedStep C hE h)
abbrev cells_P_markTurnable (cI : ClassId) (cL : ClassId) (cZ : ClassId) (a_this : Nat) (a_steps : Nat) (a_rest : Nat) (a_counts : Nat) (a_way : Nat) (a_open : Nat) (a_turnable : Nat) (a_turned : Nat) (c_width : Int32) (c_turnable : (Nat → Int32)) : va_W := [(a_this, .inr (1, [.ref a_steps, .ref a_rest, .ref a_counts, .ref a_way, .ref a_open, .ref a_turnable, .ref a_turned, .int c_width])), (a_turnable, .inl (cZ, 36, .inl c_turnable))]
abbrev rm_P_markTurnable : Room := { frames := 1, cells := 0, slots := 0, locals := 22 }
set_option maxRecDepth 100000 in
set_option maxHeartbeats 4000000 in
theorem s_P_markTurnable (C : kC p l e rm_P_markTurnable s m args below meth c D (tyG cI cL cZ) A 3 cX1_markTurnable yX1_markTurnable.cls (Cond.code yX1_markTurnable cX1_markTurnable 3 none :: WS) none) {X : kX} (hE : kEs X A s) {a_this : Nat} {a_steps : Nat} {a_rest : Nat} {a_counts : Nat} {a_way : Nat} {a_open : Nat} {a_turnable : Nat} {a_turned : Nat} {v1 : Int32} {v2 : Int32} {c_width : Int32} {c_turnable : (Nat → Int32)} {x : (Nat → Int32)} (h : f_P_markTurnable v1 v2 c_turnable = some x) :
    kW p l e rm_P_markTurnable s m args below meth c D A 3 (cells_P_markTurnable cI cL cZ a_this a_steps a_rest a_counts a_way a_open a_turnable a_turned c_width c_turnable) [(0, .ref a_this), (1, .int v1), (2, .int v2)] (MQ below (kQv D A (cells_P_markTurnable cI cL cZ a_this a_steps a_rest a_counts a_way a_open a_turnable a_turned c_width x)) args s 0 0 A) 0 [] := by
  unfold f_P_markTurnable at h
  refine k_iload_n C dX1_markTurnable_0 1 rfl rfl ?_
  refine k_iconst C (v := (0 : Int32)) dX1_markTurnable_1 (by decide) ?_
  refine k_bipush C (v := (35 : Int32)) dX1_markTurnable_2 (by decide) ?_
  obtain ⟨x1, hx1, h⟩ := bindE h
  refine kcallE_i C (r := x1) (fun H locs ls hP hD hS hF hz => krunSN C (c_M_isWithin l D cI cL cZ H.size v1 (0 : Int32) (35 : Int32) x1 hx1) ⟨va_cnB 3 C.2.2.2.2.1 (gW wq_0) rfl rfl rfl (hE.2.2.2.2.2.2.2 (RX1, 48, yX4_isWithin) (by decide +kernel)) (C.2.2.2.2.1 _ (List.mem_cons_of_mem _ wq_3)) (by decide +kernel) ⟨(Nat.le_of_ble_eq_true rfl), (Nat.le_of_ble_eq_true rfl)⟩, C.2.2.2.2.1 _ (List.mem_cons_of_mem _ wq_2), trivial⟩ kEnv_T rfl rfl (Nat.le_of_ble_eq_true rfl) dX1_markTurnable_4 hP hD hz) ?_
  refine k_if_eq C (tgt := 17) dX1_markTurnable_7 (by decide) (fun c_7 => ?_) (fun c_7 => ?_)
  · have h := ifT c_7 h
    obtain rfl := Option.some.inj h
    exact kret_v C rfl dX1_markTurnable_17
  · have h := ifF c_7 h
    refine k_aload_n C dX1_markTurnable_10 0 rfl rfl ?_
    refine k_get C (C0 := RX1) (T := TX1) (N := 8) (fun w h => List.mem_cons_of_mem _ (us_P w h)) 0 rfl rfl 5 (by decide) (List.mem_cons_of_mem _ wq_342) rfl rfl dX1_markTurnable_11 ?_
    refine k_iload_n C dX1_markTurnable_14 1 rfl rfl ?_
    refine k_iload_n C dX1_markTurnable_15 2 rfl rfl ?_
    obtain ⟨x2, hx2, h⟩ := bindE h
    refine k_zast C 1 2 (ws' := (cells_P_markTurnable cI cL cZ a_this a_steps a_rest a_counts a_way a_open a_turnable a_turned c_width x2)) rfl rfl hx2 rfl dX1_markTurnable_16 ?_
    obtain rfl := Option.some.inj h
    exact kret_v C rfl dX1_markTurnable_17
theorem c_P_markTurnable (l : Launch) (D : va_G) (cI : ClassId) (cL : ClassId) (cZ : ClassId) (X : kX) (sz : Nat) (a_this : Nat) (a_steps : Nat) (a_rest : Nat) (a_counts : Nat) (a_way : Nat) (a_open : Nat) (a_turnable : Nat) (a_turned : Nat) (v1 : Int32) (v2 : Int32) (c_width : Int32) (c_turnable : (Nat → Int32)) (x : (Nat → Int32)) (h : f_P_markTurnable v1 v2 c_turnable = some x) :
    Met l yX1_markTurnable (Cond.code yX1_markTurnable cX1_markTurnable 3 none :: WS) rm_P_markTurnable (kP D (tyG cI cL cZ) (kEs X (va_A (cells_P_markTurnable cI cL cZ a_this a_steps a_rest a_counts a_way a_open a_turnable a_turned c_width c_turnable) sz)) [.ref a_this, .int v1, .int v2] sz (cells_P_markTurnable cI cL cZ a_this a_steps a_rest a_counts a_way a_open a_turnable a_turned c_width c_turnable)) (kQv D (va_A (cells_P_markTurnable cI cL cZ a_this a_steps a_rest a_counts a_way a_open a_turnable a_turned c_width c_turnable) sz) (cells_P_markTurnable cI cL cZ a_this a_steps a_rest a_counts a_way a_open a_turnable a_turned c_width x)) 0 0 (va_A (cells_P_markTurnable cI cL cZ a_this a_steps a_rest a_counts a_way a_open a_turnable a_turned c_width c_turnable) sz) :=
  kmet (by decide) (Nat.le_of_ble_eq_true rfl) rfl (fun p e s m below meth c C hE => s_P_markTurnable C hE h)
abbrev cells_P_isPassable (cI : ClassId) (cL : ClassId) (cZ : ClassId) (a_this : Nat) (a_steps : Nat) (a_rest : Nat) (a_counts : Nat) (a_way : Nat) (a_open : Nat) (a_turnable : Nat) (a_turned : Nat) (c_width : Int32) (c_open : (Nat → Int32)) : va_W := [(a_this, .inr (1, [.ref a_steps, .ref a_rest, .ref a_counts, .ref a_way, .ref a_open, .ref a_turnable, .ref a_turned, .int c_width])), (a_open, .inl (cI, 6, .inl c_open))]
abbrev rm_P_isPassable : Room := { frames := 2, cells := 0, slots := 0, locals := 52 }
set_option maxRecDepth 100000 in
set_option maxHeartbeats 4000000 in
theorem s_P_isPassable_b9 (C : kC p l e rm_P_isPassable s m args below meth c D (tyG cI cL cZ) A 3 cX1_isPassable yX1_isPassable.cls (Cond.code yX1_isPassable cX1_isPassable 3 (some .boolean) :: WS) (some .boolean)) {a_this : Nat} {a_steps : Nat} {a_rest : Nat} {a_counts : Nat} {a_way : Nat} {a_open : Nat} {a_turnable : Nat} {a_turned : Nat} {v1 : Int32} {v2 : Int32} {c_width : Int32} {c_open : (Nat → Int32)} {x : ((Int32 × Int32) ⊕ Int32)} (h : f_P_isPassable_b9 c_width c_open v1 v2 = some x)
    (kc : ∀ s', x = .inl s' → kW p l e rm_P_isPassable s m args below meth c D A 3 (cells_P_isPassable cI cL cZ a_this a_steps a_rest a_counts a_way a_open a_turnable a_turned c_width c_open) [(0, .ref a_this), (1, .int s'.1), (2, .int s'.2)] Q 9 [])
    (k0 : ∀ r, x = .inr r → kW p l e rm_P_isPassable s m args below meth c D A 3 (cells_P_isPassable cI cL cZ a_this a_steps a_rest a_counts a_way a_open a_turnable a_turned c_width c_open) [(1, .int r)] Q 40 []) :
    kW p l e rm_P_isPassable s m args below meth c D A 3 (cells_P_isPassable cI cL cZ a_this a_steps a_rest a_counts a_way a_open a_turnable a_turned c_width c_open) [(0, .ref a_this), (1, .int v1), (2, .int v2)] Q 9 [] := by
  unfold f_P_isPassable_b9 at h
  refine k_iload_n C dX1_isPassable_9 2 rfl rfl ?_
  refine k_aload_n C dX1_isPassable_10 0 rfl rfl ?_
  obtain ⟨x2, hx2, h⟩ := bindE h
  refine kcallR_i C (wc := (cells_P_length cI cL cZ a_this a_steps a_rest a_counts a_way a_open a_turnable a_turned c_width)) (r := x2) [0] (fun H locs ls hP hD hS hF hz => krunV C (q0 := 0) (ci := 1) (c_P_length l D cI cL cZ H.size a_this a_steps a_rest a_counts a_way a_open a_turnable a_turned c_width x2 hx2) (cwV 0 C.2.2.2.2.1 (gV wq_271 wq_272 wq_273 wq_267 wq_270) rfl rfl rfl (by decide +kernel) ⟨(Nat.le_of_ble_eq_true rfl), (Nat.le_of_ble_eq_true rfl)⟩) rfl rfl kEnv_T rfl rfl (Nat.le_of_ble_eq_true rfl) dX1_isPassable_11 hP hD hz) rfl (by decide) ?_
  refine k_icmp_ge C (tgt := 40) dX1_isPassable_14 (by decide) (fun c_14 => ?_) (fun c_14 => ?_)
  · have h := ifT c_14 h
    refine k_lv (lv' := [(1, .int v1)]) [1] rfl ?_
    exact k0 _ (Option.some.inj h).symm
  · have h := ifF c_14 h
    refine k_iload_n C dX1_isPassable_17 1 rfl rfl ?_
    refine k_iload_n C dX1_isPassable_18 1 rfl rfl ?_
    refine k_iconst C (v := (1 : Int32)) dX1_isPassable_19 (by decide) ?_
    refine k_ishl C dX1_isPassable_20 ?_
    refine k_ior C dX1_isPassable_21 ?_
    refine k_iload_n C dX1_isPassable_22 1 rfl rfl ?_
    refine k_iconst C (v := (1 : Int32)) dX1_isPassable_23 (by decide) ?_
    refine k_ishr C dX1_isPassable_24 ?_
    refine k_ior C dX1_isPassable_25 ?_
    refine k_aload_n C dX1_isPassable_26 0 rfl rfl ?_
    refine k_get C (C0 := RX1) (T := TX1) (N := 8) (fun w h => List.mem_cons_of_mem _ (us_P w h)) 0 rfl rfl 4 (by decide) (List.mem_cons_of_mem _ wq_341) rfl rfl dX1_isPassable_27 ?_
    refine k_iload_n C dX1_isPassable_30 2 rfl rfl ?_
    obtain ⟨x3, hx3, h⟩ := bindE h
    refine k_iald C 1 0 rfl rfl hx3 dX1_isPassable_31 ?_
    refine k_iand C dX1_isPassable_32 ?_
    refine k_istore_n C (lv' := [(1, .int (((v1 ||| (v1 <<< ((1 : Int32) &&& 31))) ||| (v1 >>> ((1 : Int32) &&& 31))) &&& x3)), (0, .ref a_this), (2, .int v2)]) dX1_isPassable_33 rfl (by decide) rfl ?_
    refine k_iinc C (v := (v2 + (1 : Int32))) (lv' := [(2, .int (v2 + (1 : Int32))), (1, .int (((v1 ||| (v1 <<< ((1 : Int32) &&& 31))) ||| (v1 >>> ((1 : Int32) &&& 31))) &&& x3)), (0, .ref a_this)]) dX1_isPassable_34 2 rfl rfl (by decide) rfl ?_
    refine k_goto C (tgt := 9) dX1_isPassable_37 (by decide) ?_
    refine k_lv (lv' := [(0, .ref a_this), (1, .int (((v1 ||| (v1 <<< ((1 : Int32) &&& 31))) ||| (v1 >>> ((1 : Int32) &&& 31))) &&& x3)), (2, .int (v2 + (1 : Int32)))]) [2, 1, 0] rfl ?_
    exact kc _ (Option.some.inj h).symm
set_option maxRecDepth 100000 in
set_option maxHeartbeats 4000000 in
theorem s_P_isPassable_l9 (C : kC p l e rm_P_isPassable s m args below meth c D (tyG cI cL cZ) A 3 cX1_isPassable yX1_isPassable.cls (Cond.code yX1_isPassable cX1_isPassable 3 (some .boolean) :: WS) (some .boolean)) {a_this : Nat} {a_steps : Nat} {a_rest : Nat} {a_counts : Nat} {a_way : Nat} {a_open : Nat} {a_turnable : Nat} {a_turned : Nat} {v1 : Int32} {v2 : Int32} {c_width : Int32} {c_open : (Nat → Int32)} {x : Int32} (h : f_P_isPassable_l9 c_width c_open v1 v2 = some x)
    (k0 : kW p l e rm_P_isPassable s m args below meth c D A 3 (cells_P_isPassable cI cL cZ a_this a_steps a_rest a_counts a_way a_open a_turnable a_turned c_width c_open) [(1, .int x)] Q 40 []) :
    kW p l e rm_P_isPassable s m args below meth c D A 3 (cells_P_isPassable cI cL cZ a_this a_steps a_rest a_counts a_way a_open a_turnable a_turned c_width c_open) [(0, .ref a_this), (1, .int v1), (2, .int v2)] Q 9 [] := by
  unfold f_P_isPassable_l9 at h
  exact iter_W (body := fun s => f_P_isPassable_b9 c_width c_open s.1 s.2) (r := x) (T := fun sg => kW p l e rm_P_isPassable s m args below meth c D A 3 (cells_P_isPassable cI cL cZ a_this a_steps a_rest a_counts a_way a_open a_turnable a_turned c_width c_open) [(0, .ref a_this), (1, .int sg.1), (2, .int sg.2)] Q 9 []) (fun sg y hy hc _ hr => s_P_isPassable_b9 C (v1 := sg.1) (v2 := sg.2) (c_width := c_width) (c_open := c_open) (x := y) hy hc (fun r e => by rw [hr r e]; exact k0)) FUEL (v1, v2) h
set_option maxRecDepth 100000 in
set_option maxHeartbeats 4000000 in
theorem s_P_isPassable (C : kC p l e rm_P_isPassable s m args below meth c D (tyG cI cL cZ) A 3 cX1_isPassable yX1_isPassable.cls (Cond.code yX1_isPassable cX1_isPassable 3 (some .boolean) :: WS) (some .boolean)) {a_this : Nat} {a_steps : Nat} {a_rest : Nat} {a_counts : Nat} {a_way : Nat} {a_open : Nat} {a_turnable : Nat} {a_turned : Nat} {c_width : Int32} {c_open : (Nat → Int32)} {x : Int32} (h : f_P_isPassable c_width c_open = some x) :
    kW p l e rm_P_isPassable s m args below meth c D A 3 (cells_P_isPassable cI cL cZ a_this a_steps a_rest a_counts a_way a_open a_turnable a_turned c_width c_open) [(0, .ref a_this)] (MQ below (kQi D A (cells_P_isPassable cI cL cZ a_this a_steps a_rest a_counts a_way a_open a_turnable a_turned c_width c_open) x) args s 0 0 A) 0 [] := by
  unfold f_P_isPassable at h
  refine k_aload_n C dX1_isPassable_0 0 rfl rfl ?_
  refine k_get C (C0 := RX1) (T := TX1) (N := 8) (fun w h => List.mem_cons_of_mem _ (us_P w h)) 0 rfl rfl 4 (by decide) (List.mem_cons_of_mem _ wq_341) rfl rfl dX1_isPassable_1 ?_
  refine k_iconst C (v := (0 : Int32)) dX1_isPassable_4 (by decide) ?_
  obtain ⟨x1, hx1, h⟩ := bindE h
  refine k_iald C 1 0 rfl rfl hx1 dX1_isPassable_5 ?_
  refine k_istore_n C (lv' := [(1, .int x1), (0, .ref a_this)]) dX1_isPassable_6 rfl (by decide) rfl ?_
  refine k_iconst C (v := (1 : Int32)) dX1_isPassable_7 (by decide) ?_
  refine k_istore_n C (lv' := [(2, .int (1 : Int32)), (1, .int x1), (0, .ref a_this)]) dX1_isPassable_8 rfl (by decide) rfl ?_
  obtain ⟨x4, hx4, h⟩ := bindE h
  refine k_lv (lv' := [(0, .ref a_this), (1, .int x1), (2, .int (1 : Int32))]) [2, 1, 0] rfl ?_
  refine s_P_isPassable_l9 C hx4 ?_
  refine k_iload_n C dX1_isPassable_40 0 rfl rfl ?_
  refine k_if_eq C (tgt := 48) dX1_isPassable_41 (by decide) (fun c_41 => ?_) (fun c_41 => ?_)
  · have h := ifT c_41 h
    refine k_iconst C (v := (0 : Int32)) dX1_isPassable_48 (by decide) ?_
    obtain rfl := Option.some.inj h
    exact kret_z C rfl nz0 dX1_isPassable_49
  · have h := ifF c_41 h
    refine k_iconst C (v := (1 : Int32)) dX1_isPassable_44 (by decide) ?_
    refine k_goto C (tgt := 49) dX1_isPassable_45 (by decide) ?_
    obtain rfl := Option.some.inj h
    exact kret_z C rfl nz1 dX1_isPassable_49
theorem c_P_isPassable (l : Launch) (D : va_G) (cI : ClassId) (cL : ClassId) (cZ : ClassId) (sz : Nat) (a_this : Nat) (a_steps : Nat) (a_rest : Nat) (a_counts : Nat) (a_way : Nat) (a_open : Nat) (a_turnable : Nat) (a_turned : Nat) (c_width : Int32) (c_open : (Nat → Int32)) (x : Int32) (h : f_P_isPassable c_width c_open = some x) :
    Met l yX1_isPassable (Cond.code yX1_isPassable cX1_isPassable 3 (some .boolean) :: WS) rm_P_isPassable (kP D (tyG cI cL cZ) kTrue [.ref a_this] sz (cells_P_isPassable cI cL cZ a_this a_steps a_rest a_counts a_way a_open a_turnable a_turned c_width c_open)) (kQi D (va_A (cells_P_isPassable cI cL cZ a_this a_steps a_rest a_counts a_way a_open a_turnable a_turned c_width c_open) sz) (cells_P_isPassable cI cL cZ a_this a_steps a_rest a_counts a_way a_open a_turnable a_turned c_width c_open) x) 0 0 (va_A (cells_P_isPassable cI cL cZ a_this a_steps a_rest a_counts a_way a_open a_turnable a_turned c_width c_open) sz) :=
  kmet (by decide) (Nat.le_of_ble_eq_true rfl) rfl (fun p e s m below meth c C hE => s_P_isPassable C h)
abbrev cells_P_turn (cI : ClassId) (cL : ClassId) (cZ : ClassId) (a_this : Nat) (a_steps : Nat) (a_rest : Nat) (a_counts : Nat) (a_way : Nat) (a_open : Nat) (a_turnable : Nat) (a_turned : Nat) (c_width : Int32) (c_open : (Nat → Int32)) : va_W := [(a_this, .inr (1, [.ref a_steps, .ref a_rest, .ref a_counts, .ref a_way, .ref a_open, .ref a_turnable, .ref a_turned, .int c_width])), (a_open, .inl (cI, 6, .inl c_open))]
abbrev rm_P_turn : Room := { frames := 2, cells := 0, slots := 0, locals := 52 }
set_option maxRecDepth 100000 in
set_option maxHeartbeats 4000000 in
theorem s_P_turn_j17 (C : kC p l e rm_P_turn s m args below meth c D (tyG cI cL cZ) A 3 cX1_turn yX1_turn.cls (Cond.code yX1_turn cX1_turn 3 none :: WS) none) {X : kX} (hE : kEs X A s) {a_this : Nat} {a_steps : Nat} {a_rest : Nat} {a_counts : Nat} {a_way : Nat} {a_open : Nat} {a_turnable : Nat} {a_turned : Nat} {v1 : Int32} {t0 : Int32} {c_width : Int32} {c_open : (Nat → Int32)} {x : (Nat → Int32)} (h : f_P_turn_j17 v1 t0 c_width c_open = some x) :
    kW p l e rm_P_turn s m args below meth c D A 3 (cells_P_turn cI cL cZ a_this a_steps a_rest a_counts a_way a_open a_turnable a_turned c_width c_open) [(0, .ref a_this), (1, .int v1)] (MQ below (kQv D A (cells_P_turn cI cL cZ a_this a_steps a_rest a_counts a_way a_open a_turnable a_turned c_width x)) args s 0 0 A) 17 [.int t0] := by
  unfold f_P_turn_j17 at h
  refine k_istore_n C (lv' := [(2, .int t0), (0, .ref a_this), (1, .int v1)]) dX1_turn_17 rfl (by decide) rfl ?_
  refine k_iload_n C dX1_turn_18 0 rfl rfl ?_
  refine k_iconst C (v := (0 : Int32)) dX1_turn_19 (by decide) ?_
  refine k_iconst C (v := (5 : Int32)) dX1_turn_20 (by decide) ?_
  obtain ⟨x2, hx2, h⟩ := bindE h
  refine kcallE_i C (r := x2) (fun H locs ls hP hD hS hF hz => krunSN C (c_M_isWithin l D cI cL cZ H.size t0 (0 : Int32) (5 : Int32) x2 hx2) ⟨va_cnB 3 C.2.2.2.2.1 (gW wq_0) rfl rfl rfl (hE.2.2.2.2.2.2.2 (RX1, 48, yX4_isWithin) (by decide +kernel)) (C.2.2.2.2.1 _ (List.mem_cons_of_mem _ wq_3)) (by decide +kernel) ⟨(Nat.le_of_ble_eq_true rfl), (Nat.le_of_ble_eq_true rfl)⟩, C.2.2.2.2.1 _ (List.mem_cons_of_mem _ wq_2), trivial⟩ kEnv_T rfl rfl (Nat.le_of_ble_eq_true rfl) dX1_turn_21 hP hD hz) ?_
  refine k_if_eq C (tgt := 46) dX1_turn_24 (by decide) (fun c_24 => ?_) (fun c_24 => ?_)
  · have h := ifT c_24 h
    obtain rfl := Option.some.inj h
    exact kret_v C rfl dX1_turn_46
  · have h := ifF c_24 h
    refine k_aload_n C dX1_turn_27 1 rfl rfl ?_
    refine k_get C (C0 := RX1) (T := TX1) (N := 8) (fun w h => List.mem_cons_of_mem _ (us_P w h)) 0 rfl rfl 4 (by decide) (List.mem_cons_of_mem _ wq_341) rfl rfl dX1_turn_28 ?_
    refine k_iload_n C dX1_turn_31 0 rfl rfl ?_
    refine k_dup2_11 C dX1_turn_32 rfl rfl ?_
    obtain ⟨x3, hx3, h⟩ := bindE h
    refine k_iald C 1 0 rfl rfl hx3 dX1_turn_33 ?_
    refine k_iconst C (v := (1 : Int32)) dX1_turn_34 (by decide) ?_
    refine k_iload_n C dX1_turn_35 2 rfl rfl ?_
    refine k_iload_n C dX1_turn_36 0 rfl rfl ?_
    refine k_aload_n C dX1_turn_37 1 rfl rfl ?_
    obtain ⟨x4, hx4, h⟩ := bindE h
    refine kcallR_i C (wc := (cells_P_length cI cL cZ a_this a_steps a_rest a_counts a_way a_open a_turnable a_turned c_width)) (r := x4) [0] (fun H locs ls hP hD hS hF hz => krunV C (q0 := 0) (ci := 1) (c_P_length l D cI cL cZ H.size a_this a_steps a_rest a_counts a_way a_open a_turnable a_turned c_width x4 hx4) (cwV 0 C.2.2.2.2.1 (gV wq_271 wq_272 wq_273 wq_267 wq_270) rfl rfl rfl (by decide +kernel) ⟨(Nat.le_of_ble_eq_true rfl), (Nat.le_of_ble_eq_true rfl)⟩) rfl rfl kEnv_T rfl rfl (Nat.le_of_ble_eq_true rfl) dX1_turn_38 hP hD hz) rfl (by decide) ?_
    refine k_imul C dX1_turn_41 ?_
    refine k_isub C dX1_turn_42 ?_
    refine k_ishl C dX1_turn_43 ?_
    refine k_ixor C dX1_turn_44 ?_
    obtain ⟨x5, hx5, h⟩ := bindE h
    refine k_iast C 1 0 (ws' := (cells_P_turn cI cL cZ a_this a_steps a_rest a_counts a_way a_open a_turnable a_turned c_width x5)) rfl rfl hx5 rfl dX1_turn_45 ?_
    obtain rfl := Option.some.inj h
    exact kret_v C rfl dX1_turn_46
set_option maxRecDepth 100000 in
set_option maxHeartbeats 4000000 in
theorem s_P_turn (C : kC p l e rm_P_turn s m args below meth c D (tyG cI cL cZ) A 3 cX1_turn yX1_turn.cls (Cond.code yX1_turn cX1_turn 3 none :: WS) none) {X : kX} (hE : kEs X A s) {a_this : Nat} {a_steps : Nat} {a_rest : Nat} {a_counts : Nat} {a_way : Nat} {a_open : Nat} {a_turnable : Nat} {a_turned : Nat} {v1 : Int32} {c_width : Int32} {c_open : (Nat → Int32)} {x : (Nat → Int32)} (h : f_P_turn v1 c_width c_open = some x) :
    kW p l e rm_P_turn s m args below meth c D A 3 (cells_P_turn cI cL cZ a_this a_steps a_rest a_counts a_way a_open a_turnable a_turned c_width c_open) [(0, .ref a_this), (1, .int v1)] (MQ below (kQv D A (cells_P_turn cI cL cZ a_this a_steps a_rest a_counts a_way a_open a_turnable a_turned c_width x)) args s 0 0 A) 0 [] := by
  unfold f_P_turn at h
  refine k_aload_n C dX1_turn_0 0 rfl rfl ?_
  obtain ⟨x1, hx1, h⟩ := bindE h
  refine kcallR_i C (wc := (cells_P_length cI cL cZ a_this a_steps a_rest a_counts a_way a_open a_turnable a_turned c_width)) (r := x1) [0] (fun H locs ls hP hD hS hF hz => krunV C (q0 := 0) (ci := 1) (c_P_length l D cI cL cZ H.size a_this a_steps a_rest a_counts a_way a_open a_turnable a_turned c_width x1 hx1) (cwV 0 C.2.2.2.2.1 (gV wq_271 wq_272 wq_273 wq_267 wq_270) rfl rfl rfl (by decide +kernel) ⟨(Nat.le_of_ble_eq_true rfl), (Nat.le_of_ble_eq_true rfl)⟩) rfl rfl kEnv_T rfl rfl (Nat.le_of_ble_eq_true rfl) dX1_turn_1 hP hD hz) rfl (by decide) ?_
  refine k_if_le C (tgt := 16) dX1_turn_4 (by decide) (fun c_4 => ?_) (fun c_4 => ?_)
  · have h := ifT c_4 h
    refine k_iconst C (v := (0 : Int32)) dX1_turn_16 (by decide) ?_
    exact s_P_turn_j17 C hE h
  · have h := ifF c_4 h
    refine k_iload_n C dX1_turn_7 1 rfl rfl ?_
    refine k_aload_n C dX1_turn_8 0 rfl rfl ?_
    obtain ⟨x6, hx6, h⟩ := bindE h
    refine kcallR_i C (wc := (cells_P_length cI cL cZ a_this a_steps a_rest a_counts a_way a_open a_turnable a_turned c_width)) (r := x6) [0] (fun H locs ls hP hD hS hF hz => krunV C (q0 := 0) (ci := 1) (c_P_length l D cI cL cZ H.size a_this a_steps a_rest a_counts a_way a_open a_turnable a_turned c_width x6 hx6) (cwV 0 C.2.2.2.2.1 (gV wq_271 wq_272 wq_273 wq_267 wq_270) rfl rfl rfl (by decide +kernel) ⟨(Nat.le_of_ble_eq_true rfl), (Nat.le_of_ble_eq_true rfl)⟩) rfl rfl kEnv_T rfl rfl (Nat.le_of_ble_eq_true rfl) dX1_turn_9 hP hD hz) rfl (by decide) ?_
    obtain ⟨x7, hx7, h⟩ := bindE h
    refine k_idiv C dX1_turn_12 hx7 ?_
    refine k_goto C (tgt := 17) dX1_turn_13 (by decide) ?_
    exact s_P_turn_j17 C hE h
theorem c_P_turn (l : Launch) (D : va_G) (cI : ClassId) (cL : ClassId) (cZ : ClassId) (X : kX) (sz : Nat) (a_this : Nat) (a_steps : Nat) (a_rest : Nat) (a_counts : Nat) (a_way : Nat) (a_open : Nat) (a_turnable : Nat) (a_turned : Nat) (v1 : Int32) (c_width : Int32) (c_open : (Nat → Int32)) (x : (Nat → Int32)) (h : f_P_turn v1 c_width c_open = some x) :
    Met l yX1_turn (Cond.code yX1_turn cX1_turn 3 none :: WS) rm_P_turn (kP D (tyG cI cL cZ) (kEs X (va_A (cells_P_turn cI cL cZ a_this a_steps a_rest a_counts a_way a_open a_turnable a_turned c_width c_open) sz)) [.ref a_this, .int v1] sz (cells_P_turn cI cL cZ a_this a_steps a_rest a_counts a_way a_open a_turnable a_turned c_width c_open)) (kQv D (va_A (cells_P_turn cI cL cZ a_this a_steps a_rest a_counts a_way a_open a_turnable a_turned c_width c_open) sz) (cells_P_turn cI cL cZ a_this a_steps a_rest a_counts a_way a_open a_turnable a_turned c_width x)) 0 0 (va_A (cells_P_turn cI cL cZ a_this a_steps a_rest a_counts a_way a_open a_turnable a_turned c_width c_open) sz) :=
  kmet (by decide) (Nat.le_of_ble_eq_true rfl) rfl (fun p e s m below meth c C hE => s_P_turn C hE h)
abbrev cells_P_firstTurned (cI : ClassId) (cL : ClassId) (cZ : ClassId) (a_this : Nat) (a_steps : Nat) (a_rest : Nat) (a_counts : Nat) (a_way : Nat) (a_open : Nat) (a_turnable : Nat) (a_turned : Nat) (c_width : Int32) (c_open : (Nat → Int32)) (c_turnable : (Nat → Int32)) : va_W := [(a_this, .inr (1, [.ref a_steps, .ref a_rest, .ref a_counts, .ref a_way, .ref a_open, .ref a_turnable, .ref a_turned, .int c_width])), (a_open, .inl (cI, 6, .inl c_open)), (a_turnable, .inl (cZ, 36, .inl c_turnable))]
abbrev rm_P_firstTurned : Room := { frames := 3, cells := 0, slots := 0, locals := 75 }
set_option maxRecDepth 100000 in
set_option maxHeartbeats 4000000 in
theorem s_P_firstTurned_j47 (C : kC p l e rm_P_firstTurned s m args below meth c D (tyG cI cL cZ) A 5 cX1_firstTurned yX1_firstTurned.cls (Cond.code yX1_firstTurned cX1_firstTurned 5 (some .int) :: WS) (some .int)) {X : kX} (hE : kEs X A s) {a_this : Nat} {a_steps : Nat} {a_rest : Nat} {a_counts : Nat} {a_way : Nat} {a_open : Nat} {a_turnable : Nat} {a_turned : Nat} {v2 : Int32} {v3 : Int32} {t0 : Int32} {c_width : Int32} {c_open : (Nat → Int32)} {c_turnable : (Nat → Int32)} {x : ((Int32 × (Nat → Int32)) ⊕ ((Int32 × (Nat → Int32)) ⊕ (Nat → Int32)))} (h : f_P_firstTurned_j47 v3 t0 c_width c_open = some x)
    (kc : ∀ s', x = .inl s' → kW p l e rm_P_firstTurned s m args below meth c D A 5 (cells_P_firstTurned cI cL cZ a_this a_steps a_rest a_counts a_way a_open a_turnable a_turned c_width s'.2 c_turnable) [(0, .ref a_this), (2, .int v2), (3, .int s'.1)] Q 2 [])
    (k0 : ∀ r, x = .inr (.inl r) → kW p l e rm_P_firstTurned s m args below meth c D A 5 (cells_P_firstTurned cI cL cZ a_this a_steps a_rest a_counts a_way a_open a_turnable a_turned c_width r.2 c_turnable) [(3, .int r.1)] Q 59 [])
    (k1 : ∀ r, x = .inr (.inr r) → kW p l e rm_P_firstTurned s m args below meth c D A 5 (cells_P_firstTurned cI cL cZ a_this a_steps a_rest a_counts a_way a_open a_turnable a_turned c_width r c_turnable) [] Q 67 []) :
    kW p l e rm_P_firstTurned s m args below meth c D A 5 (cells_P_firstTurned cI cL cZ a_this a_steps a_rest a_counts a_way a_open a_turnable a_turned c_width c_open c_turnable) [(0, .ref a_this), (2, .int v2), (3, .int v3)] Q 47 [.int t0] := by
  unfold f_P_firstTurned_j47 at h
  refine k_istore C (lv' := [(4, .int t0), (0, .ref a_this), (2, .int v2), (3, .int v3)]) dX1_firstTurned_47 (by decide) rfl ?_
  refine k_aload_n C dX1_firstTurned_49 1 rfl rfl ?_
  refine k_iload_n C dX1_firstTurned_50 3 rfl rfl ?_
  obtain ⟨x7, hx7, h⟩ := bindE h
  refine kcallU_v C (wc := (cells_P_turn cI cL cZ a_this a_steps a_rest a_counts a_way a_open a_turnable a_turned c_width c_open)) (w1 := (cells_P_turn cI cL cZ a_this a_steps a_rest a_counts a_way a_open a_turnable a_turned c_width x7)) (ws' := (cells_P_firstTurned cI cL cZ a_this a_steps a_rest a_counts a_way a_open a_turnable a_turned c_width x7 c_turnable)) [0, 1] (fun H locs ls hP hD hS hF hz => krunV C (q0 := 0) (ci := 1) (c_P_turn l D cI cL cZ X H.size a_this a_steps a_rest a_counts a_way a_open a_turnable a_turned v3 c_width c_open x7 hx7) (cwV 1 C.2.2.2.2.1 (gV wq_344 wq_345 wq_346 wq_267 wq_343) rfl rfl rfl (by decide +kernel) ⟨(Nat.le_of_ble_eq_true rfl), (Nat.le_of_ble_eq_true rfl)⟩) rfl rfl (kEs_call hE hS hF) rfl rfl (Nat.le_of_ble_eq_true rfl) dX1_firstTurned_51 hP hD hz) rfl (by decide) rfl rfl ?_
  refine k_iload C dX1_firstTurned_54 0 rfl ?_
  refine k_if_eq C (tgt := 61) dX1_firstTurned_56 (by decide) (fun c_56 => ?_) (fun c_56 => ?_)
  · have h := ifT c_56 h
    refine k_iinc C (v := (v3 + (1 : Int32))) (lv' := [(3, .int (v3 + (1 : Int32))), (4, .int t0), (0, .ref a_this), (2, .int v2)]) dX1_firstTurned_61 3 rfl rfl (by decide) rfl ?_
    refine k_goto C (tgt := 2) dX1_firstTurned_64 (by decide) ?_
    refine k_lv (lv' := [(0, .ref a_this), (2, .int v2), (3, .int (v3 + (1 : Int32)))]) [2, 3, 0] rfl ?_
    exact kc _ (Option.some.inj h).symm
  · have h := ifF c_56 h
    refine k_lv (lv' := [(3, .int v3)]) [3] rfl ?_
    exact k0 _ (Option.some.inj h).symm
set_option maxRecDepth 100000 in
set_option maxHeartbeats 4000000 in
theorem s_P_firstTurned_b2 (C : kC p l e rm_P_firstTurned s m args below meth c D (tyG cI cL cZ) A 5 cX1_firstTurned yX1_firstTurned.cls (Cond.code yX1_firstTurned cX1_firstTurned 5 (some .int) :: WS) (some .int)) {X : kX} (hE : kEs X A s) {a_this : Nat} {a_steps : Nat} {a_rest : Nat} {a_counts : Nat} {a_way : Nat} {a_open : Nat} {a_turnable : Nat} {a_turned : Nat} {v2 : Int32} {v3 : Int32} {c_width : Int32} {c_open : (Nat → Int32)} {c_turnable : (Nat → Int32)} {x : ((Int32 × (Nat → Int32)) ⊕ ((Int32 × (Nat → Int32)) ⊕ (Nat → Int32)))} (h : f_P_firstTurned_b2 v2 c_width c_turnable v3 c_open = some x)
    (kc : ∀ s', x = .inl s' → kW p l e rm_P_firstTurned s m args below meth c D A 5 (cells_P_firstTurned cI cL cZ a_this a_steps a_rest a_counts a_way a_open a_turnable a_turned c_width s'.2 c_turnable) [(0, .ref a_this), (2, .int v2), (3, .int s'.1)] Q 2 [])
    (k0 : ∀ r, x = .inr (.inl r) → kW p l e rm_P_firstTurned s m args below meth c D A 5 (cells_P_firstTurned cI cL cZ a_this a_steps a_rest a_counts a_way a_open a_turnable a_turned c_width r.2 c_turnable) [(3, .int r.1)] Q 59 [])
    (k1 : ∀ r, x = .inr (.inr r) → kW p l e rm_P_firstTurned s m args below meth c D A 5 (cells_P_firstTurned cI cL cZ a_this a_steps a_rest a_counts a_way a_open a_turnable a_turned c_width r c_turnable) [] Q 67 []) :
    kW p l e rm_P_firstTurned s m args below meth c D A 5 (cells_P_firstTurned cI cL cZ a_this a_steps a_rest a_counts a_way a_open a_turnable a_turned c_width c_open c_turnable) [(0, .ref a_this), (2, .int v2), (3, .int v3)] Q 2 [] := by
  unfold f_P_firstTurned_b2 at h
  refine k_iload_n C dX1_firstTurned_2 2 rfl rfl ?_
  refine k_aload_n C dX1_firstTurned_3 0 rfl rfl ?_
  obtain ⟨x1, hx1, h⟩ := bindE h
  refine kcallR_i C (wc := (cells_P_length cI cL cZ a_this a_steps a_rest a_counts a_way a_open a_turnable a_turned c_width)) (r := x1) [0] (fun H locs ls hP hD hS hF hz => krunV C (q0 := 0) (ci := 1) (c_P_length l D cI cL cZ H.size a_this a_steps a_rest a_counts a_way a_open a_turnable a_turned c_width x1 hx1) (cwV 0 C.2.2.2.2.1 (gV wq_271 wq_272 wq_273 wq_267 wq_270) rfl rfl rfl (by decide +kernel) ⟨(Nat.le_of_ble_eq_true rfl), (Nat.le_of_ble_eq_true rfl)⟩) rfl rfl kEnv_T rfl rfl (Nat.le_of_ble_eq_true rfl) dX1_firstTurned_4 hP hD hz) rfl (by decide) ?_
  refine k_aload_n C dX1_firstTurned_7 0 rfl rfl ?_
  obtain ⟨x2, hx2, h⟩ := bindE h
  refine kcallR_i C (wc := (cells_P_length cI cL cZ a_this a_steps a_rest a_counts a_way a_open a_turnable a_turned c_width)) (r := x2) [0] (fun H locs ls hP hD hS hF hz => krunV C (q0 := 0) (ci := 1) (c_P_length l D cI cL cZ H.size a_this a_steps a_rest a_counts a_way a_open a_turnable a_turned c_width x2 hx2) (cwV 0 C.2.2.2.2.1 (gV wq_271 wq_272 wq_273 wq_267 wq_270) rfl rfl rfl (by decide +kernel) ⟨(Nat.le_of_ble_eq_true rfl), (Nat.le_of_ble_eq_true rfl)⟩) rfl rfl kEnv_T rfl rfl (Nat.le_of_ble_eq_true rfl) dX1_firstTurned_8 hP hD hz) rfl (by decide) ?_
  refine k_imul C dX1_firstTurned_11 ?_
  refine k_icmp_ge C (tgt := 67) dX1_firstTurned_12 (by decide) (fun c_12 => ?_) (fun c_12 => ?_)
  · have h := ifT c_12 h
    refine k_lv (lv' := []) [] rfl ?_
    exact k1 _ (Option.some.inj h).symm
  · have h := ifF c_12 h
    refine k_aload_n C dX1_firstTurned_15 0 rfl rfl ?_
    refine k_get C (C0 := RX1) (T := TX1) (N := 8) (fun w h => List.mem_cons_of_mem _ (us_P w h)) 0 rfl rfl 5 (by decide) (List.mem_cons_of_mem _ wq_342) rfl rfl dX1_firstTurned_16 ?_
    refine k_aload_n C dX1_firstTurned_19 0 rfl rfl ?_
    refine k_iconst C (v := (0 : Int32)) dX1_firstTurned_20 (by decide) ?_
    refine k_iload_n C dX1_firstTurned_21 2 rfl rfl ?_
    obtain ⟨x3, hx3, h⟩ := bindE h
    refine kcallR_i C (wc := (cells_P_cellIn cI cL cZ a_this a_steps a_rest a_counts a_way a_open a_turnable a_turned c_width)) (r := x3) [0] (fun H locs ls hP hD hS hF hz => krunV C (q0 := 0) (ci := 1) (c_P_cellIn l D cI cL cZ X H.size a_this a_steps a_rest a_counts a_way a_open a_turnable a_turned (0 : Int32) v3 c_width x3 hx3) (cwV 2 C.2.2.2.2.1 (gV wq_278 wq_279 wq_280 wq_267 wq_277) rfl rfl rfl (by decide +kernel) ⟨(Nat.le_of_ble_eq_true rfl), (Nat.le_of_ble_eq_true rfl)⟩) rfl rfl (kEs_call hE hS hF) rfl rfl (Nat.le_of_ble_eq_true rfl) dX1_firstTurned_22 hP hD hz) rfl (by decide) ?_
    obtain ⟨x4, hx4, h⟩ := bindE h
    refine k_zald C 2 2 rfl rfl hx4 dX1_firstTurned_25 ?_
    refine k_if_eq C (tgt := 61) dX1_firstTurned_26 (by decide) (fun c_26 => ?_) (fun c_26 => ?_)
    · have h := ifT c_26 h
      refine k_iinc C (v := (v3 + (1 : Int32))) (lv' := [(3, .int (v3 + (1 : Int32))), (0, .ref a_this), (2, .int v2)]) dX1_firstTurned_61 2 rfl rfl (by decide) rfl ?_
      refine k_goto C (tgt := 2) dX1_firstTurned_64 (by decide) ?_
      refine k_lv (lv' := [(0, .ref a_this), (2, .int v2), (3, .int (v3 + (1 : Int32)))]) [1, 2, 0] rfl ?_
      exact kc _ (Option.some.inj h).symm
    · have h := ifF c_26 h
      refine k_aload_n C dX1_firstTurned_29 0 rfl rfl ?_
      refine k_iload_n C dX1_firstTurned_30 2 rfl rfl ?_
      obtain ⟨x5, hx5, h⟩ := bindE h
      refine kcallU_v C (wc := (cells_P_turn cI cL cZ a_this a_steps a_rest a_counts a_way a_open a_turnable a_turned c_width c_open)) (w1 := (cells_P_turn cI cL cZ a_this a_steps a_rest a_counts a_way a_open a_turnable a_turned c_width x5)) (ws' := (cells_P_firstTurned cI cL cZ a_this a_steps a_rest a_counts a_way a_open a_turnable a_turned c_width x5 c_turnable)) [0, 1] (fun H locs ls hP hD hS hF hz => krunV C (q0 := 0) (ci := 1) (c_P_turn l D cI cL cZ X H.size a_this a_steps a_rest a_counts a_way a_open a_turnable a_turned v3 c_width c_open x5 hx5) (cwV 1 C.2.2.2.2.1 (gV wq_344 wq_345 wq_346 wq_267 wq_343) rfl rfl rfl (by decide +kernel) ⟨(Nat.le_of_ble_eq_true rfl), (Nat.le_of_ble_eq_true rfl)⟩) rfl rfl (kEs_call hE hS hF) rfl rfl (Nat.le_of_ble_eq_true rfl) dX1_firstTurned_31 hP hD hz) rfl (by decide) rfl rfl ?_
      refine k_aload_n C dX1_firstTurned_34 0 rfl rfl ?_
      obtain ⟨x6, hx6, h⟩ := bindE h
      refine kcallR_i C (wc := (cells_P_isPassable cI cL cZ a_this a_steps a_rest a_counts a_way a_open a_turnable a_turned c_width x5)) (r := x6) [0, 1] (fun H locs ls hP hD hS hF hz => krunV C (q0 := 0) (ci := 1) (c_P_isPassable l D cI cL cZ H.size a_this a_steps a_rest a_counts a_way a_open a_turnable a_turned c_width x5 x6 hx6) (cwV 0 C.2.2.2.2.1 (gV wq_348 wq_349 wq_350 wq_267 wq_347) rfl rfl rfl (by decide +kernel) ⟨(Nat.le_of_ble_eq_true rfl), (Nat.le_of_ble_eq_true rfl)⟩) rfl rfl kEnv_T rfl rfl (Nat.le_of_ble_eq_true rfl) dX1_firstTurned_35 hP hD hz) rfl (by decide) ?_
      refine k_iload_n C dX1_firstTurned_38 1 rfl rfl ?_
      refine k_icmp_ne C (tgt := 46) dX1_firstTurned_39 (by decide) (fun c_39 => ?_) (fun c_39 => ?_)
      · have h := ifF c_39 h
        refine k_iconst C (v := (0 : Int32)) dX1_firstTurned_46 (by decide) ?_
        exact s_P_firstTurned_j47 C hE h kc k0 k1
      · have h := ifT c_39 h
        refine k_iconst C (v := (1 : Int32)) dX1_firstTurned_42 (by decide) ?_
        refine k_goto C (tgt := 47) dX1_firstTurned_43 (by decide) ?_
        exact s_P_firstTurned_j47 C hE h kc k0 k1
set_option maxRecDepth 100000 in
set_option maxHeartbeats 4000000 in
theorem s_P_firstTurned_l2 (C : kC p l e rm_P_firstTurned s m args below meth c D (tyG cI cL cZ) A 5 cX1_firstTurned yX1_firstTurned.cls (Cond.code yX1_firstTurned cX1_firstTurned 5 (some .int) :: WS) (some .int)) {X : kX} (hE : kEs X A s) {a_this : Nat} {a_steps : Nat} {a_rest : Nat} {a_counts : Nat} {a_way : Nat} {a_open : Nat} {a_turnable : Nat} {a_turned : Nat} {v2 : Int32} {v3 : Int32} {c_width : Int32} {c_open : (Nat → Int32)} {c_turnable : (Nat → Int32)} {x : ((Int32 × (Nat → Int32)) ⊕ (Nat → Int32))} (h : f_P_firstTurned_l2 v2 c_width c_turnable v3 c_open = some x)
    (k0 : ∀ r, x = (.inl r) → kW p l e rm_P_firstTurned s m args below meth c D A 5 (cells_P_firstTurned cI cL cZ a_this a_steps a_rest a_counts a_way a_open a_turnable a_turned c_width r.2 c_turnable) [(3, .int r.1)] Q 59 [])
    (k1 : ∀ r, x = (.inr r) → kW p l e rm_P_firstTurned s m args below meth c D A 5 (cells_P_firstTurned cI cL cZ a_this a_steps a_rest a_counts a_way a_open a_turnable a_turned c_width r c_turnable) [] Q 67 []) :
    kW p l e rm_P_firstTurned s m args below meth c D A 5 (cells_P_firstTurned cI cL cZ a_this a_steps a_rest a_counts a_way a_open a_turnable a_turned c_width c_open c_turnable) [(0, .ref a_this), (2, .int v2), (3, .int v3)] Q 2 [] := by
  unfold f_P_firstTurned_l2 at h
  exact iter_W (body := fun s => f_P_firstTurned_b2 v2 c_width c_turnable s.1 s.2) (r := x) (T := fun sg => kW p l e rm_P_firstTurned s m args below meth c D A 5 (cells_P_firstTurned cI cL cZ a_this a_steps a_rest a_counts a_way a_open a_turnable a_turned c_width sg.2 c_turnable) [(0, .ref a_this), (2, .int v2), (3, .int sg.1)] Q 2 []) (fun sg y hy hc _ hr => s_P_firstTurned_b2 C hE (v2 := v2) (v3 := sg.1) (c_width := c_width) (c_open := sg.2) (c_turnable := c_turnable) (x := y) hy hc (fun r e => k0 r (hr _ e).symm) (fun r e => k1 r (hr _ e).symm)) FUEL (v3, c_open) h
set_option maxRecDepth 100000 in
set_option maxHeartbeats 4000000 in
theorem s_P_firstTurned (C : kC p l e rm_P_firstTurned s m args below meth c D (tyG cI cL cZ) A 5 cX1_firstTurned yX1_firstTurned.cls (Cond.code yX1_firstTurned cX1_firstTurned 5 (some .int) :: WS) (some .int)) {X : kX} (hE : kEs X A s) {a_this : Nat} {a_steps : Nat} {a_rest : Nat} {a_counts : Nat} {a_way : Nat} {a_open : Nat} {a_turnable : Nat} {a_turned : Nat} {v1 : Int32} {v2 : Int32} {c_width : Int32} {c_open : (Nat → Int32)} {c_turnable : (Nat → Int32)} {x : (Int32 × (Nat → Int32))} (h : f_P_firstTurned v1 v2 c_width c_open c_turnable = some x) :
    kW p l e rm_P_firstTurned s m args below meth c D A 5 (cells_P_firstTurned cI cL cZ a_this a_steps a_rest a_counts a_way a_open a_turnable a_turned c_width c_open c_turnable) [(0, .ref a_this), (1, .int v1), (2, .int v2)] (MQ below (kQi D A (cells_P_firstTurned cI cL cZ a_this a_steps a_rest a_counts a_way a_open a_turnable a_turned c_width x.2 c_turnable) x.1) args s 0 0 A) 0 [] := by
  unfold f_P_firstTurned at h
  refine k_iload_n C dX1_firstTurned_0 1 rfl rfl ?_
  refine k_istore_n C (lv' := [(3, .int v1), (0, .ref a_this), (1, .int v1), (2, .int v2)]) dX1_firstTurned_1 rfl (by decide) rfl ?_
  obtain ⟨x8, hx8, h⟩ := bindE h
  refine k_lv (lv' := [(0, .ref a_this), (2, .int v2), (3, .int v1)]) [1, 3, 0] rfl ?_
  refine s_P_firstTurned_l2 C hE hx8 ?_ ?_
  · intro x9 ex9
    subst ex9
    have h := sumL h
    refine k_iload_n C dX1_firstTurned_59 0 rfl rfl ?_
    obtain rfl := Option.some.inj h
    exact kret_i C rfl dX1_firstTurned_60
  · intro x10 ex10
    subst ex10
    have h := sumR h
    refine k_iconst C (v := (-1 : Int32)) dX1_firstTurned_67 (by decide) ?_
    obtain rfl := Option.some.inj h
    exact kret_i C rfl dX1_firstTurned_68
theorem c_P_firstTurned (l : Launch) (D : va_G) (cI : ClassId) (cL : ClassId) (cZ : ClassId) (X : kX) (sz : Nat) (a_this : Nat) (a_steps : Nat) (a_rest : Nat) (a_counts : Nat) (a_way : Nat) (a_open : Nat) (a_turnable : Nat) (a_turned : Nat) (v1 : Int32) (v2 : Int32) (c_width : Int32) (c_open : (Nat → Int32)) (c_turnable : (Nat → Int32)) (x : (Int32 × (Nat → Int32))) (h : f_P_firstTurned v1 v2 c_width c_open c_turnable = some x) :
    Met l yX1_firstTurned (Cond.code yX1_firstTurned cX1_firstTurned 5 (some .int) :: WS) rm_P_firstTurned (kP D (tyG cI cL cZ) (kEs X (va_A (cells_P_firstTurned cI cL cZ a_this a_steps a_rest a_counts a_way a_open a_turnable a_turned c_width c_open c_turnable) sz)) [.ref a_this, .int v1, .int v2] sz (cells_P_firstTurned cI cL cZ a_this a_steps a_rest a_counts a_way a_open a_turnable a_turned c_width c_open c_turnable)) (kQi D (va_A (cells_P_firstTurned cI cL cZ a_this a_steps a_rest a_counts a_way a_open a_turnable a_turned c_width c_open c_turnable) sz) (cells_P_firstTurned cI cL cZ a_this a_steps a_rest a_counts a_way a_open a_turnable a_turned c_width x.2 c_turnable) x.1) 0 0 (va_A (cells_P_firstTurned cI cL cZ a_this a_steps a_rest a_counts a_way a_open a_turnable a_turned c_width c_open c_turnable) sz) :=
  kmet (by decide) (Nat.le_of_ble_eq_true rfl) rfl (fun p e s m below meth c C hE => s_P_firstTurned C hE h)
abbrev cells_P_fewestTurned (cI : ClassId) (cL : ClassId) (cZ : ClassId) (a_this : Nat) (a_steps : Nat) (a_rest : Nat) (a_counts : Nat) (a_way : Nat) (a_open : Nat) (a_turnable : Nat) (a_turned : Nat) (c_width : Int32) (c_open : (Nat → Int32)) (c_turnable : (Nat → Int32)) (c_turned : (Nat → Int32)) : va_W := [(a_this, .inr (1, [.ref a_steps, .ref a_rest, .ref a_counts, .ref a_way, .ref a_open, .ref a_turnable, .ref a_turned, .int c_width])), (a_open, .inl (cI, 6, .inl c_open)), (a_turnable, .inl (cZ, 36, .inl c_turnable)), (a_turned, .inl (cI, 2, .inl c_turned))]
abbrev rm_P_fewestTurned : Room := { frames := 4, cells := 0, slots := 0, locals := 99 }
set_option maxRecDepth 100000 in
set_option maxHeartbeats 4000000 in
theorem s_P_fewestTurned_b36 (C : kC p l e rm_P_fewestTurned s m args below meth c D (tyG cI cL cZ) A 3 cX1_fewestTurned yX1_fewestTurned.cls (Cond.code yX1_fewestTurned cX1_fewestTurned 3 (some .int) :: WS) (some .int)) {X : kX} (hE : kEs X A s) {a_this : Nat} {a_steps : Nat} {a_rest : Nat} {a_counts : Nat} {a_way : Nat} {a_open : Nat} {a_turnable : Nat} {a_turned : Nat} {v1 : Int32} {v2 : Int32} {c_width : Int32} {c_open : (Nat → Int32)} {c_turnable : (Nat → Int32)} {c_turned : (Nat → Int32)} {x : ((Int32 × (Nat → Int32) × (Nat → Int32)) ⊕ ((Int32 × (Nat → Int32) × (Nat → Int32)) ⊕ ((Nat → Int32) × (Nat → Int32))))} (h : f_P_fewestTurned_b36 v1 c_width c_turnable v2 c_open c_turned = some x)
    (kc : ∀ s', x = .inl s' → kW p l e rm_P_fewestTurned s m args below meth c D A 3 (cells_P_fewestTurned cI cL cZ a_this a_steps a_rest a_counts a_way a_open a_turnable a_turned c_width s'.2.1 c_turnable s'.2.2) [(0, .ref a_this), (1, .int v1), (2, .int s'.1)] Q 36 [])
    (k0 : ∀ r, x = .inr (.inl r) → kW p l e rm_P_fewestTurned s m args below meth c D A 3 (cells_P_fewestTurned cI cL cZ a_this a_steps a_rest a_counts a_way a_open a_turnable a_turned c_width r.2.1 c_turnable r.2.2) [(0, .ref a_this), (2, .int r.1)] Q 97 [])
    (k1 : ∀ r, x = .inr (.inr r) → kW p l e rm_P_fewestTurned s m args below meth c D A 3 (cells_P_fewestTurned cI cL cZ a_this a_steps a_rest a_counts a_way a_open a_turnable a_turned c_width r.1 c_turnable r.2) [] Q 112 []) :
    kW p l e rm_P_fewestTurned s m args below meth c D A 3 (cells_P_fewestTurned cI cL cZ a_this a_steps a_rest a_counts a_way a_open a_turnable a_turned c_width c_open c_turnable c_turned) [(0, .ref a_this), (1, .int v1), (2, .int v2)] Q 36 [] := by
  unfold f_P_fewestTurned_b36 at h
  refine k_iload_n C dX1_fewestTurned_36 2 rfl rfl ?_
  refine k_aload_n C dX1_fewestTurned_37 0 rfl rfl ?_
  obtain ⟨x5, hx5, h⟩ := bindE h
  refine kcallR_i C (wc := (cells_P_length cI cL cZ a_this a_steps a_rest a_counts a_way a_open a_turnable a_turned c_width)) (r := x5) [0] (fun H locs ls hP hD hS hF hz => krunV C (q0 := 0) (ci := 1) (c_P_length l D cI cL cZ H.size a_this a_steps a_rest a_counts a_way a_open a_turnable a_turned c_width x5 hx5) (cwV 0 C.2.2.2.2.1 (gV wq_271 wq_272 wq_273 wq_267 wq_270) rfl rfl rfl (by decide +kernel) ⟨(Nat.le_of_ble_eq_true rfl), (Nat.le_of_ble_eq_true rfl)⟩) rfl rfl kEnv_T rfl rfl (Nat.le_of_ble_eq_true rfl) dX1_fewestTurned_38 hP hD hz) rfl (by decide) ?_
  refine k_aload_n C dX1_fewestTurned_41 0 rfl rfl ?_
  obtain ⟨x6, hx6, h⟩ := bindE h
  refine kcallR_i C (wc := (cells_P_length cI cL cZ a_this a_steps a_rest a_counts a_way a_open a_turnable a_turned c_width)) (r := x6) [0] (fun H locs ls hP hD hS hF hz => krunV C (q0 := 0) (ci := 1) (c_P_length l D cI cL cZ H.size a_this a_steps a_rest a_counts a_way a_open a_turnable a_turned c_width x6 hx6) (cwV 0 C.2.2.2.2.1 (gV wq_271 wq_272 wq_273 wq_267 wq_270) rfl rfl rfl (by decide +kernel) ⟨(Nat.le_of_ble_eq_true rfl), (Nat.le_of_ble_eq_true rfl)⟩) rfl rfl kEnv_T rfl rfl (Nat.le_of_ble_eq_true rfl) dX1_fewestTurned_42 hP hD hz) rfl (by decide) ?_
  refine k_imul C dX1_fewestTurned_45 ?_
  refine k_icmp_ge C (tgt := 112) dX1_fewestTurned_46 (by decide) (fun c_46 => ?_) (fun c_46 => ?_)
  · have h := ifT c_46 h
    refine k_lv (lv' := []) [] rfl ?_
    exact k1 _ (Option.some.inj h).symm
  · have h := ifF c_46 h
    refine k_aload_n C dX1_fewestTurned_49 0 rfl rfl ?_
    refine k_get C (C0 := RX1) (T := TX1) (N := 8) (fun w h => List.mem_cons_of_mem _ (us_P w h)) 0 rfl rfl 5 (by decide) (List.mem_cons_of_mem _ wq_342) rfl rfl dX1_fewestTurned_50 ?_
    refine k_aload_n C dX1_fewestTurned_53 0 rfl rfl ?_
    refine k_iconst C (v := (0 : Int32)) dX1_fewestTurned_54 (by decide) ?_
    refine k_iload_n C dX1_fewestTurned_55 2 rfl rfl ?_
    obtain ⟨x7, hx7, h⟩ := bindE h
    refine kcallR_i C (wc := (cells_P_cellIn cI cL cZ a_this a_steps a_rest a_counts a_way a_open a_turnable a_turned c_width)) (r := x7) [0] (fun H locs ls hP hD hS hF hz => krunV C (q0 := 0) (ci := 1) (c_P_cellIn l D cI cL cZ X H.size a_this a_steps a_rest a_counts a_way a_open a_turnable a_turned (0 : Int32) v2 c_width x7 hx7) (cwV 2 C.2.2.2.2.1 (gV wq_278 wq_279 wq_280 wq_267 wq_277) rfl rfl rfl (by decide +kernel) ⟨(Nat.le_of_ble_eq_true rfl), (Nat.le_of_ble_eq_true rfl)⟩) rfl rfl (kEs_call hE hS hF) rfl rfl (Nat.le_of_ble_eq_true rfl) dX1_fewestTurned_56 hP hD hz) rfl (by decide) ?_
    obtain ⟨x8, hx8, h⟩ := bindE h
    refine k_zald C 2 2 rfl rfl hx8 dX1_fewestTurned_59 ?_
    refine k_if_eq C (tgt := 106) dX1_fewestTurned_60 (by decide) (fun c_60 => ?_) (fun c_60 => ?_)
    · have h := ifT c_60 h
      refine k_iinc C (v := (v2 + (1 : Int32))) (lv' := [(2, .int (v2 + (1 : Int32))), (0, .ref a_this), (1, .int v1)]) dX1_fewestTurned_106 2 rfl rfl (by decide) rfl ?_
      refine k_goto C (tgt := 36) dX1_fewestTurned_109 (by decide) ?_
      refine k_lv (lv' := [(0, .ref a_this), (1, .int v1), (2, .int (v2 + (1 : Int32)))]) [1, 2, 0] rfl ?_
      exact kc _ (Option.some.inj h).symm
    · have h := ifF c_60 h
      refine k_aload_n C dX1_fewestTurned_63 0 rfl rfl ?_
      refine k_iload_n C dX1_fewestTurned_64 2 rfl rfl ?_
      obtain ⟨x9, hx9, h⟩ := bindE h
      refine kcallU_v C (wc := (cells_P_turn cI cL cZ a_this a_steps a_rest a_counts a_way a_open a_turnable a_turned c_width c_open)) (w1 := (cells_P_turn cI cL cZ a_this a_steps a_rest a_counts a_way a_open a_turnable a_turned c_width x9)) (ws' := (cells_P_fewestTurned cI cL cZ a_this a_steps a_rest a_counts a_way a_open a_turnable a_turned c_width x9 c_turnable c_turned)) [0, 1] (fun H locs ls hP hD hS hF hz => krunV C (q0 := 0) (ci := 1) (c_P_turn l D cI cL cZ X H.size a_this a_steps a_rest a_counts a_way a_open a_turnable a_turned v2 c_width c_open x9 hx9) (cwV 1 C.2.2.2.2.1 (gV wq_344 wq_345 wq_346 wq_267 wq_343) rfl rfl rfl (by decide +kernel) ⟨(Nat.le_of_ble_eq_true rfl), (Nat.le_of_ble_eq_true rfl)⟩) rfl rfl (kEs_call hE hS hF) rfl rfl (Nat.le_of_ble_eq_true rfl) dX1_fewestTurned_65 hP hD hz) rfl (by decide) rfl rfl ?_
      refine k_aload_n C dX1_fewestTurned_68 0 rfl rfl ?_
      refine k_get C (C0 := RX1) (T := TX1) (N := 8) (fun w h => List.mem_cons_of_mem _ (us_P w h)) 0 rfl rfl 6 (by decide) (List.mem_cons_of_mem _ wq_351) rfl rfl dX1_fewestTurned_69 ?_
      refine k_iconst C (v := (1 : Int32)) dX1_fewestTurned_72 (by decide) ?_
      refine k_aload_n C dX1_fewestTurned_73 0 rfl rfl ?_
      refine k_iload_n C dX1_fewestTurned_74 2 rfl rfl ?_
      refine k_iconst C (v := (1 : Int32)) dX1_fewestTurned_75 (by decide) ?_
      refine k_iadd C dX1_fewestTurned_76 ?_
      refine k_iload_n C dX1_fewestTurned_77 1 rfl rfl ?_
      obtain ⟨x10, hx10, h⟩ := bindE h
      refine kcallU_i C (wc := (cells_P_firstTurned cI cL cZ a_this a_steps a_rest a_counts a_way a_open a_turnable a_turned c_width x9 c_turnable)) (w1 := (cells_P_firstTurned cI cL cZ a_this a_steps a_rest a_counts a_way a_open a_turnable a_turned c_width x10.2 c_turnable)) (ws' := (cells_P_fewestTurned cI cL cZ a_this a_steps a_rest a_counts a_way a_open a_turnable a_turned c_width x10.2 c_turnable c_turned)) (r := x10.1) [0, 1, 2] (fun H locs ls hP hD hS hF hz => krunV C (q0 := 0) (ci := 1) (c_P_firstTurned l D cI cL cZ X H.size a_this a_steps a_rest a_counts a_way a_open a_turnable a_turned (v2 + (1 : Int32)) v1 c_width x9 c_turnable x10 hx10) (cwV 2 C.2.2.2.2.1 (gV wq_353 wq_354 wq_355 wq_267 wq_352) rfl rfl rfl (by decide +kernel) ⟨(Nat.le_of_ble_eq_true rfl), (Nat.le_of_ble_eq_true rfl)⟩) rfl rfl (kEs_call hE hS hF) rfl rfl (Nat.le_of_ble_eq_true rfl) dX1_fewestTurned_78 hP hD hz) rfl (by decide) rfl rfl ?_
      obtain ⟨x11, hx11, h⟩ := bindE h
      refine k_iast C 3 0 (ws' := (cells_P_fewestTurned cI cL cZ a_this a_steps a_rest a_counts a_way a_open a_turnable a_turned c_width x10.2 c_turnable x11)) rfl rfl hx11 rfl dX1_fewestTurned_81 ?_
      refine k_aload_n C dX1_fewestTurned_82 0 rfl rfl ?_
      refine k_iload_n C dX1_fewestTurned_83 2 rfl rfl ?_
      obtain ⟨x12, hx12, h⟩ := bindE h
      refine kcallU_v C (wc := (cells_P_turn cI cL cZ a_this a_steps a_rest a_counts a_way a_open a_turnable a_turned c_width x10.2)) (w1 := (cells_P_turn cI cL cZ a_this a_steps a_rest a_counts a_way a_open a_turnable a_turned c_width x12)) (ws' := (cells_P_fewestTurned cI cL cZ a_this a_steps a_rest a_counts a_way a_open a_turnable a_turned c_width x12 c_turnable x11)) [0, 1] (fun H locs ls hP hD hS hF hz => krunV C (q0 := 0) (ci := 1) (c_P_turn l D cI cL cZ X H.size a_this a_steps a_rest a_counts a_way a_open a_turnable a_turned v2 c_width x10.2 x12 hx12) (cwV 1 C.2.2.2.2.1 (gV wq_344 wq_345 wq_346 wq_267 wq_343) rfl rfl rfl (by decide +kernel) ⟨(Nat.le_of_ble_eq_true rfl), (Nat.le_of_ble_eq_true rfl)⟩) rfl rfl (kEs_call hE hS hF) rfl rfl (Nat.le_of_ble_eq_true rfl) dX1_fewestTurned_84 hP hD hz) rfl (by decide) rfl rfl ?_
      refine k_aload_n C dX1_fewestTurned_87 0 rfl rfl ?_
      refine k_get C (C0 := RX1) (T := TX1) (N := 8) (fun w h => List.mem_cons_of_mem _ (us_P w h)) 0 rfl rfl 6 (by decide) (List.mem_cons_of_mem _ wq_351) rfl rfl dX1_fewestTurned_88 ?_
      refine k_iconst C (v := (1 : Int32)) dX1_fewestTurned_91 (by decide) ?_
      obtain ⟨x13, hx13, h⟩ := bindE h
      refine k_iald C 3 0 rfl rfl hx13 dX1_fewestTurned_92 ?_
      refine k_iconst C (v := (-1 : Int32)) dX1_fewestTurned_93 (by decide) ?_
      refine k_icmp_eq C (tgt := 106) dX1_fewestTurned_94 (by decide) (fun c_94 => ?_) (fun c_94 => ?_)
      · have h := ifT c_94 h
        refine k_iinc C (v := (v2 + (1 : Int32))) (lv' := [(2, .int (v2 + (1 : Int32))), (0, .ref a_this), (1, .int v1)]) dX1_fewestTurned_106 2 rfl rfl (by decide) rfl ?_
        refine k_goto C (tgt := 36) dX1_fewestTurned_109 (by decide) ?_
        refine k_lv (lv' := [(0, .ref a_this), (1, .int v1), (2, .int (v2 + (1 : Int32)))]) [1, 2, 0] rfl ?_
        exact kc _ (Option.some.inj h).symm
      · have h := ifF c_94 h
        refine k_lv (lv' := [(0, .ref a_this), (2, .int v2)]) [0, 2] rfl ?_
        exact k0 _ (Option.some.inj h).symm
set_option maxRecDepth 100000 in
set_option maxHeartbeats 4000000 in
theorem s_P_fewestTurned_l36 (C : kC p l e rm_P_fewestTurned s m args below meth c D (tyG cI cL cZ) A 3 cX1_fewestTurned yX1_fewestTurned.cls (Cond.code yX1_fewestTurned cX1_fewestTurned 3 (some .int) :: WS) (some .int)) {X : kX} (hE : kEs X A s) {a_this : Nat} {a_steps : Nat} {a_rest : Nat} {a_counts : Nat} {a_way : Nat} {a_open : Nat} {a_turnable : Nat} {a_turned : Nat} {v1 : Int32} {v2 : Int32} {c_width : Int32} {c_open : (Nat → Int32)} {c_turnable : (Nat → Int32)} {c_turned : (Nat → Int32)} {x : ((Int32 × (Nat → Int32) × (Nat → Int32)) ⊕ ((Nat → Int32) × (Nat → Int32)))} (h : f_P_fewestTurned_l36 v1 c_width c_turnable v2 c_open c_turned = some x)
    (k0 : ∀ r, x = (.inl r) → kW p l e rm_P_fewestTurned s m args below meth c D A 3 (cells_P_fewestTurned cI cL cZ a_this a_steps a_rest a_counts a_way a_open a_turnable a_turned c_width r.2.1 c_turnable r.2.2) [(0, .ref a_this), (2, .int r.1)] Q 97 [])
    (k1 : ∀ r, x = (.inr r) → kW p l e rm_P_fewestTurned s m args below meth c D A 3 (cells_P_fewestTurned cI cL cZ a_this a_steps a_rest a_counts a_way a_open a_turnable a_turned c_width r.1 c_turnable r.2) [] Q 112 []) :
    kW p l e rm_P_fewestTurned s m args below meth c D A 3 (cells_P_fewestTurned cI cL cZ a_this a_steps a_rest a_counts a_way a_open a_turnable a_turned c_width c_open c_turnable c_turned) [(0, .ref a_this), (1, .int v1), (2, .int v2)] Q 36 [] := by
  unfold f_P_fewestTurned_l36 at h
  exact iter_W (body := fun s => f_P_fewestTurned_b36 v1 c_width c_turnable s.1 s.2.1 s.2.2) (r := x) (T := fun sg => kW p l e rm_P_fewestTurned s m args below meth c D A 3 (cells_P_fewestTurned cI cL cZ a_this a_steps a_rest a_counts a_way a_open a_turnable a_turned c_width sg.2.1 c_turnable sg.2.2) [(0, .ref a_this), (1, .int v1), (2, .int sg.1)] Q 36 []) (fun sg y hy hc _ hr => s_P_fewestTurned_b36 C hE (v1 := v1) (v2 := sg.1) (c_width := c_width) (c_open := sg.2.1) (c_turnable := c_turnable) (c_turned := sg.2.2) (x := y) hy hc (fun r e => k0 r (hr _ e).symm) (fun r e => k1 r (hr _ e).symm)) FUEL (v2, c_open, c_turned) h
set_option maxRecDepth 100000 in
set_option maxHeartbeats 4000000 in
theorem s_P_fewestTurned (C : kC p l e rm_P_fewestTurned s m args below meth c D (tyG cI cL cZ) A 3 cX1_fewestTurned yX1_fewestTurned.cls (Cond.code yX1_fewestTurned cX1_fewestTurned 3 (some .int) :: WS) (some .int)) {X : kX} (hE : kEs X A s) {a_this : Nat} {a_steps : Nat} {a_rest : Nat} {a_counts : Nat} {a_way : Nat} {a_open : Nat} {a_turnable : Nat} {a_turned : Nat} {v1 : Int32} {c_width : Int32} {c_open : (Nat → Int32)} {c_turnable : (Nat → Int32)} {c_turned : (Nat → Int32)} {x : (Int32 × (Nat → Int32) × (Nat → Int32))} (h : f_P_fewestTurned v1 c_width c_open c_turnable c_turned = some x) :
    kW p l e rm_P_fewestTurned s m args below meth c D A 3 (cells_P_fewestTurned cI cL cZ a_this a_steps a_rest a_counts a_way a_open a_turnable a_turned c_width c_open c_turnable c_turned) [(0, .ref a_this), (1, .int v1)] (MQ below (kQi D A (cells_P_fewestTurned cI cL cZ a_this a_steps a_rest a_counts a_way a_open a_turnable a_turned c_width x.2.1 c_turnable x.2.2) x.1) args s 0 0 A) 0 [] := by
  unfold f_P_fewestTurned at h
  refine k_aload_n C dX1_fewestTurned_0 0 rfl rfl ?_
  obtain ⟨x1, hx1, h⟩ := bindE h
  refine kcallR_i C (wc := (cells_P_isPassable cI cL cZ a_this a_steps a_rest a_counts a_way a_open a_turnable a_turned c_width c_open)) (r := x1) [0, 1] (fun H locs ls hP hD hS hF hz => krunV C (q0 := 0) (ci := 1) (c_P_isPassable l D cI cL cZ H.size a_this a_steps a_rest a_counts a_way a_open a_turnable a_turned c_width c_open x1 hx1) (cwV 0 C.2.2.2.2.1 (gV wq_348 wq_349 wq_350 wq_267 wq_347) rfl rfl rfl (by decide +kernel) ⟨(Nat.le_of_ble_eq_true rfl), (Nat.le_of_ble_eq_true rfl)⟩) rfl rfl kEnv_T rfl rfl (Nat.le_of_ble_eq_true rfl) dX1_fewestTurned_1 hP hD hz) rfl (by decide) ?_
  refine k_iload_n C dX1_fewestTurned_4 1 rfl rfl ?_
  refine k_icmp_ne C (tgt := 10) dX1_fewestTurned_5 (by decide) (fun c_5 => ?_) (fun c_5 => ?_)
  · have h := ifF c_5 h
    refine k_aload_n C dX1_fewestTurned_10 0 rfl rfl ?_
    refine k_get C (C0 := RX1) (T := TX1) (N := 8) (fun w h => List.mem_cons_of_mem _ (us_P w h)) 0 rfl rfl 6 (by decide) (List.mem_cons_of_mem _ wq_351) rfl rfl dX1_fewestTurned_11 ?_
    refine k_iconst C (v := (0 : Int32)) dX1_fewestTurned_14 (by decide) ?_
    refine k_aload_n C dX1_fewestTurned_15 0 rfl rfl ?_
    refine k_iconst C (v := (0 : Int32)) dX1_fewestTurned_16 (by decide) ?_
    refine k_iload_n C dX1_fewestTurned_17 1 rfl rfl ?_
    obtain ⟨x2, hx2, h⟩ := bindE h
    refine kcallU_i C (wc := (cells_P_firstTurned cI cL cZ a_this a_steps a_rest a_counts a_way a_open a_turnable a_turned c_width c_open c_turnable)) (w1 := (cells_P_firstTurned cI cL cZ a_this a_steps a_rest a_counts a_way a_open a_turnable a_turned c_width x2.2 c_turnable)) (ws' := (cells_P_fewestTurned cI cL cZ a_this a_steps a_rest a_counts a_way a_open a_turnable a_turned c_width x2.2 c_turnable c_turned)) (r := x2.1) [0, 1, 2] (fun H locs ls hP hD hS hF hz => krunV C (q0 := 0) (ci := 1) (c_P_firstTurned l D cI cL cZ X H.size a_this a_steps a_rest a_counts a_way a_open a_turnable a_turned (0 : Int32) v1 c_width c_open c_turnable x2 hx2) (cwV 2 C.2.2.2.2.1 (gV wq_353 wq_354 wq_355 wq_267 wq_352) rfl rfl rfl (by decide +kernel) ⟨(Nat.le_of_ble_eq_true rfl), (Nat.le_of_ble_eq_true rfl)⟩) rfl rfl (kEs_call hE hS hF) rfl rfl (Nat.le_of_ble_eq_true rfl) dX1_fewestTurned_18 hP hD hz) rfl (by decide) rfl rfl ?_
    obtain ⟨x3, hx3, h⟩ := bindE h
    refine k_iast C 3 0 (ws' := (cells_P_fewestTurned cI cL cZ a_this a_steps a_rest a_counts a_way a_open a_turnable a_turned c_width x2.2 c_turnable x3)) rfl rfl hx3 rfl dX1_fewestTurned_21 ?_
    refine k_aload_n C dX1_fewestTurned_22 0 rfl rfl ?_
    refine k_get C (C0 := RX1) (T := TX1) (N := 8) (fun w h => List.mem_cons_of_mem _ (us_P w h)) 0 rfl rfl 6 (by decide) (List.mem_cons_of_mem _ wq_351) rfl rfl dX1_fewestTurned_23 ?_
    refine k_iconst C (v := (0 : Int32)) dX1_fewestTurned_26 (by decide) ?_
    obtain ⟨x4, hx4, h⟩ := bindE h
    refine k_iald C 3 0 rfl rfl hx4 dX1_fewestTurned_27 ?_
    refine k_iconst C (v := (-1 : Int32)) dX1_fewestTurned_28 (by decide) ?_
    refine k_icmp_eq C (tgt := 34) dX1_fewestTurned_29 (by decide) (fun c_29 => ?_) (fun c_29 => ?_)
    · have h := ifT c_29 h
      refine k_iconst C (v := (0 : Int32)) dX1_fewestTurned_34 (by decide) ?_
      refine k_istore_n C (lv' := [(2, .int (0 : Int32)), (0, .ref a_this), (1, .int v1)]) dX1_fewestTurned_35 rfl (by decide) rfl ?_
      obtain ⟨x14, hx14, h⟩ := bindE h
      refine k_lv (lv' := [(0, .ref a_this), (1, .int v1), (2, .int (0 : Int32))]) [1, 2, 0] rfl ?_
      refine s_P_fewestTurned_l36 C hE hx14 ?_ ?_
      · intro x15 ex15
        subst ex15
        have h := sumL h
        refine k_aload_n C dX1_fewestTurned_97 0 rfl rfl ?_
        refine k_get C (C0 := RX1) (T := TX1) (N := 8) (fun w h => List.mem_cons_of_mem _ (us_P w h)) 0 rfl rfl 6 (by decide) (List.mem_cons_of_mem _ wq_351) rfl rfl dX1_fewestTurned_98 ?_
        refine k_iconst C (v := (0 : Int32)) dX1_fewestTurned_101 (by decide) ?_
        refine k_iload_n C dX1_fewestTurned_102 1 rfl rfl ?_
        obtain ⟨x17, hx17, h⟩ := bindE h
        refine k_iast C 3 0 (ws' := (cells_P_fewestTurned cI cL cZ a_this a_steps a_rest a_counts a_way a_open a_turnable a_turned c_width x15.2.1 c_turnable x17)) rfl rfl hx17 rfl dX1_fewestTurned_103 ?_
        refine k_iconst C (v := (2 : Int32)) dX1_fewestTurned_104 (by decide) ?_
        obtain rfl := Option.some.inj h
        exact kret_i C rfl dX1_fewestTurned_105
      · intro x16 ex16
        subst ex16
        have h := sumR h
        refine k_iconst C (v := (-1 : Int32)) dX1_fewestTurned_112 (by decide) ?_
        obtain rfl := Option.some.inj h
        exact kret_i C rfl dX1_fewestTurned_113
    · have h := ifF c_29 h
      refine k_iconst C (v := (1 : Int32)) dX1_fewestTurned_32 (by decide) ?_
      obtain rfl := Option.some.inj h
      exact kret_i C rfl dX1_fewestTurned_33
  · have h := ifT c_5 h
    refine k_iconst C (v := (0 : Int32)) dX1_fewestTurned_8 (by decide) ?_
    obtain rfl := Option.some.inj h
    exact kret_i C rfl dX1_fewestTurned_9
theorem c_P_fewestTurned (l : Launch) (D : va_G) (cI : ClassId) (cL : ClassId) (cZ : ClassId) (X : kX) (sz : Nat) (a_this : Nat) (a_steps : Nat) (a_rest : Nat) (a_counts : Nat) (a_way : Nat) (a_open : Nat) (a_turnable : Nat) (a_turned : Nat) (v1 : Int32) (c_width : Int32) (c_open : (Nat → Int32)) (c_turnable : (Nat → Int32)) (c_turned : (Nat → Int32)) (x : (Int32 × (Nat → Int32) × (Nat → Int32))) (h : f_P_fewestTurned v1 c_width c_open c_turnable c_turned = some x) :
    Met l yX1_fewestTurned (Cond.code yX1_fewestTurned cX1_fewestTurned 3 (some .int) :: WS) rm_P_fewestTurned (kP D (tyG cI cL cZ) (kEs X (va_A (cells_P_fewestTurned cI cL cZ a_this a_steps a_rest a_counts a_way a_open a_turnable a_turned c_width c_open c_turnable c_turned) sz)) [.ref a_this, .int v1] sz (cells_P_fewestTurned cI cL cZ a_this a_steps a_rest a_counts a_way a_open a_turnable a_turned c_width c_open c_turnable c_turned)) (kQi D (va_A (cells_P_fewestTurned cI cL cZ a_this a_steps a_rest a_counts a_way a_open a_turnable a_turned c_width c_open c_turnable c_turned) sz) (cells_P_fewestTurned cI cL cZ a_this a_steps a_rest a_counts a_way a_open a_turnable a_turned c_width x.2.1 c_turnable x.2.2) x.1) 0 0 (va_A (cells_P_fewestTurned cI cL cZ a_this a_steps a_rest a_counts a_way a_open a_turnable a_turned c_width c_open c_turnable c_turned) sz) :=
  kmet (by decide) (Nat.le_of_ble_eq_true rfl) rfl (fun p e s m below meth c C hE => s_P_fewestTurned C hE h)
abbrev cells_P_turnedCell (cI : ClassId) (cL : ClassId) (cZ : ClassId) (a_this : Nat) (a_steps : Nat) (a_rest : Nat) (a_counts : Nat) (a_way : Nat) (a_open : Nat) (a_turnable : Nat) (a_turned : Nat) (c_width : Int32) (c_turned : (Nat → Int32)) : va_W := [(a_this, .inr (1, [.ref a_steps, .ref a_rest, .ref a_counts, .ref a_way, .ref a_open, .ref a_turnable, .ref a_turned, .int c_width])), (a_turned, .inl (cI, 2, .inl c_turned))]
abbrev rm_P_turnedCell : Room := { frames := 1, cells := 0, slots := 0, locals := 22 }
set_option maxRecDepth 100000 in
set_option maxHeartbeats 4000000 in
theorem s_P_turnedCell (C : kC p l e rm_P_turnedCell s m args below meth c D (tyG cI cL cZ) A 2 cX1_turnedCell yX1_turnedCell.cls (Cond.code yX1_turnedCell cX1_turnedCell 2 (some .int) :: WS) (some .int)) {X : kX} (hE : kEs X A s) {a_this : Nat} {a_steps : Nat} {a_rest : Nat} {a_counts : Nat} {a_way : Nat} {a_open : Nat} {a_turnable : Nat} {a_turned : Nat} {v1 : Int32} {c_width : Int32} {c_turned : (Nat → Int32)} {x : Int32} (h : f_P_turnedCell v1 c_turned = some x) :
    kW p l e rm_P_turnedCell s m args below meth c D A 2 (cells_P_turnedCell cI cL cZ a_this a_steps a_rest a_counts a_way a_open a_turnable a_turned c_width c_turned) [(0, .ref a_this), (1, .int v1)] (MQ below (kQi D A (cells_P_turnedCell cI cL cZ a_this a_steps a_rest a_counts a_way a_open a_turnable a_turned c_width c_turned) x) args s 0 0 A) 0 [] := by
  unfold f_P_turnedCell at h
  refine k_iload_n C dX1_turnedCell_0 1 rfl rfl ?_
  refine k_iconst C (v := (0 : Int32)) dX1_turnedCell_1 (by decide) ?_
  refine k_iconst C (v := (1 : Int32)) dX1_turnedCell_2 (by decide) ?_
  obtain ⟨x1, hx1, h⟩ := bindE h
  refine kcallE_i C (r := x1) (fun H locs ls hP hD hS hF hz => krunSN C (c_M_isWithin l D cI cL cZ H.size v1 (0 : Int32) (1 : Int32) x1 hx1) ⟨va_cnB 3 C.2.2.2.2.1 (gW wq_0) rfl rfl rfl (hE.2.2.2.2.2.2.2 (RX1, 48, yX4_isWithin) (by decide +kernel)) (C.2.2.2.2.1 _ (List.mem_cons_of_mem _ wq_3)) (by decide +kernel) ⟨(Nat.le_of_ble_eq_true rfl), (Nat.le_of_ble_eq_true rfl)⟩, C.2.2.2.2.1 _ (List.mem_cons_of_mem _ wq_2), trivial⟩ kEnv_T rfl rfl (Nat.le_of_ble_eq_true rfl) dX1_turnedCell_3 hP hD hz) ?_
  refine k_if_eq C (tgt := 18) dX1_turnedCell_6 (by decide) (fun c_6 => ?_) (fun c_6 => ?_)
  · have h := ifT c_6 h
    refine k_iconst C (v := (-1 : Int32)) dX1_turnedCell_18 (by decide) ?_
    obtain rfl := Option.some.inj h
    exact kret_i C rfl dX1_turnedCell_19
  · have h := ifF c_6 h
    refine k_aload_n C dX1_turnedCell_9 0 rfl rfl ?_
    refine k_get C (C0 := RX1) (T := TX1) (N := 8) (fun w h => List.mem_cons_of_mem _ (us_P w h)) 0 rfl rfl 6 (by decide) (List.mem_cons_of_mem _ wq_351) rfl rfl dX1_turnedCell_10 ?_
    refine k_iload_n C dX1_turnedCell_13 1 rfl rfl ?_
    obtain ⟨x2, hx2, h⟩ := bindE h
    refine k_iald C 1 0 rfl rfl hx2 dX1_turnedCell_14 ?_
    refine k_goto C (tgt := 19) dX1_turnedCell_15 (by decide) ?_
    obtain rfl := Option.some.inj h
    exact kret_i C rfl dX1_turnedCell_19
theorem c_P_turnedCell (l : Launch) (D : va_G) (cI : ClassId) (cL : ClassId) (cZ : ClassId) (X : kX) (sz : Nat) (a_this : Nat) (a_steps : Nat) (a_rest : Nat) (a_counts : Nat) (a_way : Nat) (a_open : Nat) (a_turnable : Nat) (a_turned : Nat) (v1 : Int32) (c_width : Int32) (c_turned : (Nat → Int32)) (x : Int32) (h : f_P_turnedCell v1 c_turned = some x) :
    Met l yX1_turnedCell (Cond.code yX1_turnedCell cX1_turnedCell 2 (some .int) :: WS) rm_P_turnedCell (kP D (tyG cI cL cZ) (kEs X (va_A (cells_P_turnedCell cI cL cZ a_this a_steps a_rest a_counts a_way a_open a_turnable a_turned c_width c_turned) sz)) [.ref a_this, .int v1] sz (cells_P_turnedCell cI cL cZ a_this a_steps a_rest a_counts a_way a_open a_turnable a_turned c_width c_turned)) (kQi D (va_A (cells_P_turnedCell cI cL cZ a_this a_steps a_rest a_counts a_way a_open a_turnable a_turned c_width c_turned) sz) (cells_P_turnedCell cI cL cZ a_this a_steps a_rest a_counts a_way a_open a_turnable a_turned c_width c_turned) x) 0 0 (va_A (cells_P_turnedCell cI cL cZ a_this a_steps a_rest a_counts a_way a_open a_turnable a_turned c_width c_turned) sz) :=
  kmet (by decide) (Nat.le_of_ble_eq_true rfl) rfl (fun p e s m below meth c C hE => s_P_turnedCell C hE h)
abbrev cells_M_toldOfFewest (cI : ClassId) (cL : ClassId) (cZ : ClassId) (a_this : Nat) (a_now : Nat) (a_kept : Nat) (a_trial : Nat) (a_shelves : Nat) (a_tape : Nat) (a_paths : Nat) (a_sounds : Nat) (a_volumes : Nat) (a_refusals : Nat) (a_paths_steps : Nat) (a_paths_rest : Nat) (a_paths_counts : Nat) (a_paths_way : Nat) (a_paths_open : Nat) (a_paths_turnable : Nat) (a_paths_turned : Nat) (c_isKept : Int32) (c_paths_width : Int32) (c_paths_turned : (Nat → Int32)) (c_refusals : (Nat → Int32)) : va_W := [(a_this, .inr (4, [.ref a_now, .ref a_kept, .ref a_trial, .ref a_shelves, .ref a_tape, .ref a_paths, .ref a_sounds, .ref a_volumes, .ref a_refusals, .int c_isKept])), (a_paths, .inr (1, [.ref a_paths_steps, .ref a_paths_rest, .ref a_paths_counts, .ref a_paths_way, .ref a_paths_open, .ref a_paths_turnable, .ref a_paths_turned, .int c_paths_width])), (a_paths_turned, .inl (cI, 2, .inl c_paths_turned)), (a_refusals, .inl (cI, 5, .inl c_refusals))]
abbrev rm_M_toldOfFewest : Room := { frames := 2, cells := 0, slots := 0, locals := 44 }
set_option maxRecDepth 100000 in
set_option maxHeartbeats 4000000 in
theorem s_M_toldOfFewest (C : kC p l e rm_M_toldOfFewest s m args below meth c D (tyG cI cL cZ) A 3 cX4_toldOfFewest yX4_toldOfFewest.cls (Cond.code yX4_toldOfFewest cX4_toldOfFewest 3 (some .int) :: WS) (some .int)) {X : kX} (hE : kEs X A s) {a_this : Nat} {a_now : Nat} {a_kept : Nat} {a_trial : Nat} {a_shelves : Nat} {a_tape : Nat} {a_paths : Nat} {a_sounds : Nat} {a_volumes : Nat} {a_refusals : Nat} {a_paths_steps : Nat} {a_paths_rest : Nat} {a_paths_counts : Nat} {a_paths_way : Nat} {a_paths_open : Nat} {a_paths_turnable : Nat} {a_paths_turned : Nat} {v1 : Int32} {v2 : Int32} {c_isKept : Int32} {c_paths_width : Int32} {c_paths_turned : (Nat → Int32)} {c_refusals : (Nat → Int32)} {x : (Int32 × (Nat → Int32))} (h : f_M_toldOfFewest v1 v2 c_paths_turned c_refusals = some x) :
    kW p l e rm_M_toldOfFewest s m args below meth c D A 3 (cells_M_toldOfFewest cI cL cZ a_this a_now a_kept a_trial a_shelves a_tape a_paths a_sounds a_volumes a_refusals a_paths_steps a_paths_rest a_paths_counts a_paths_way a_paths_open a_paths_turnable a_paths_turned c_isKept c_paths_width c_paths_turned c_refusals) [(0, .ref a_this), (1, .int v1), (2, .int v2)] (MQ below (kQi D A (cells_M_toldOfFewest cI cL cZ a_this a_now a_kept a_trial a_shelves a_tape a_paths a_sounds a_volumes a_refusals a_paths_steps a_paths_rest a_paths_counts a_paths_way a_paths_open a_paths_turnable a_paths_turned c_isKept c_paths_width c_paths_turned x.2) x.1) args s 0 0 A) 0 [] := by
  unfold f_M_toldOfFewest at h
  refine k_iload_n C dX4_toldOfFewest_0 2 rfl rfl ?_
  refine k_iconst C (v := (-1 : Int32)) dX4_toldOfFewest_1 (by decide) ?_
  refine k_icmp_ne C (tgt := 7) dX4_toldOfFewest_2 (by decide) (fun c_2 => ?_) (fun c_2 => ?_)
  · have h := ifF c_2 h
    refine k_iload_n C dX4_toldOfFewest_7 2 rfl rfl ?_
    refine k_iload_n C dX4_toldOfFewest_8 1 rfl rfl ?_
    refine k_icmp_ge C (tgt := 23) dX4_toldOfFewest_9 (by decide) (fun c_9 => ?_) (fun c_9 => ?_)
    · have h := ifT c_9 h
      refine k_aload_n C dX4_toldOfFewest_23 0 rfl rfl ?_
      refine k_bipush C (v := (-5 : Int32)) dX4_toldOfFewest_24 (by decide) ?_
      obtain ⟨x1, hx1, h⟩ := bindE h
      refine kcallU_i C (wc := (cells_M_refuse cI cL cZ a_this a_now a_kept a_trial a_shelves a_tape a_paths a_sounds a_volumes a_refusals c_isKept c_refusals)) (w1 := (cells_M_refuse cI cL cZ a_this a_now a_kept a_trial a_shelves a_tape a_paths a_sounds a_volumes a_refusals c_isKept x1.2)) (ws' := (cells_M_toldOfFewest cI cL cZ a_this a_now a_kept a_trial a_shelves a_tape a_paths a_sounds a_volumes a_refusals a_paths_steps a_paths_rest a_paths_counts a_paths_way a_paths_open a_paths_turnable a_paths_turned c_isKept c_paths_width c_paths_turned x1.2)) (r := x1.1) [0, 3] (fun H locs ls hP hD hS hF hz => krunV C (q0 := 0) (ci := 4) (c_M_refuse l D cI cL cZ H.size a_this a_now a_kept a_trial a_shelves a_tape a_paths a_sounds a_volumes a_refusals (-5 : Int32) c_isKept c_refusals x1 hx1) (cwV 1 C.2.2.2.2.1 (gV wq_12 wq_13 wq_14 wq_3 wq_11) rfl rfl rfl (by decide +kernel) ⟨(Nat.le_of_ble_eq_true rfl), (Nat.le_of_ble_eq_true rfl)⟩) rfl rfl kEnv_T rfl rfl (Nat.le_of_ble_eq_true rfl) dX4_toldOfFewest_26 hP hD hz) rfl (by decide) rfl rfl ?_
      obtain rfl := Option.some.inj h
      exact kret_i C rfl dX4_toldOfFewest_29
    · have h := ifF c_9 h
      refine k_aload_n C dX4_toldOfFewest_12 0 rfl rfl ?_
      refine k_get C (C0 := RX4) (T := TX4) (N := 10) (fun w h => List.mem_cons_of_mem _ (us_M w h)) 0 rfl rfl 5 (by decide) (List.mem_cons_of_mem _ wq_257) rfl rfl dX4_toldOfFewest_13 ?_
      refine k_iload_n C dX4_toldOfFewest_16 2 rfl rfl ?_
      obtain ⟨x2, hx2, h⟩ := bindE h
      refine kcallR_i C (wc := (cells_P_turnedCell cI cL cZ a_paths a_paths_steps a_paths_rest a_paths_counts a_paths_way a_paths_open a_paths_turnable a_paths_turned c_paths_width c_paths_turned)) (r := x2) [1, 2] (fun H locs ls hP hD hS hF hz => krunV C (q0 := 0) (ci := 1) (c_P_turnedCell l D cI cL cZ X H.size a_paths a_paths_steps a_paths_rest a_paths_counts a_paths_way a_paths_open a_paths_turnable a_paths_turned v2 c_paths_width c_paths_turned x2 hx2) (cwV 1 C.2.2.2.2.1 (gV wq_357 wq_358 wq_359 wq_267 wq_356) rfl rfl rfl (by decide +kernel) ⟨(Nat.le_of_ble_eq_true rfl), (Nat.le_of_ble_eq_true rfl)⟩) rfl rfl (kEs_call hE hS hF) rfl rfl (Nat.le_of_ble_eq_true rfl) dX4_toldOfFewest_17 hP hD hz) rfl (by decide) ?_
      refine k_goto C (tgt := 29) dX4_toldOfFewest_20 (by decide) ?_
      obtain rfl := Option.some.inj h
      exact kret_i C rfl dX4_toldOfFewest_29
  · have h := ifT c_2 h
    refine k_iload_n C dX4_toldOfFewest_5 1 rfl rfl ?_
    obtain rfl := Option.some.inj h
    exact kret_i C rfl dX4_toldOfFewest_6
theorem c_M_toldOfFewest (l : Launch) (D : va_G) (cI : ClassId) (cL : ClassId) (cZ : ClassId) (X : kX) (sz : Nat) (a_this : Nat) (a_now : Nat) (a_kept : Nat) (a_trial : Nat) (a_shelves : Nat) (a_tape : Nat) (a_paths : Nat) (a_sounds : Nat) (a_volumes : Nat) (a_refusals : Nat) (a_paths_steps : Nat) (a_paths_rest : Nat) (a_paths_counts : Nat) (a_paths_way : Nat) (a_paths_open : Nat) (a_paths_turnable : Nat) (a_paths_turned : Nat) (v1 : Int32) (v2 : Int32) (c_isKept : Int32) (c_paths_width : Int32) (c_paths_turned : (Nat → Int32)) (c_refusals : (Nat → Int32)) (x : (Int32 × (Nat → Int32))) (h : f_M_toldOfFewest v1 v2 c_paths_turned c_refusals = some x) :
    Met l yX4_toldOfFewest (Cond.code yX4_toldOfFewest cX4_toldOfFewest 3 (some .int) :: WS) rm_M_toldOfFewest (kP D (tyG cI cL cZ) (kEs X (va_A (cells_M_toldOfFewest cI cL cZ a_this a_now a_kept a_trial a_shelves a_tape a_paths a_sounds a_volumes a_refusals a_paths_steps a_paths_rest a_paths_counts a_paths_way a_paths_open a_paths_turnable a_paths_turned c_isKept c_paths_width c_paths_turned c_refusals) sz)) [.ref a_this, .int v1, .int v2] sz (cells_M_toldOfFewest cI cL cZ a_this a_now a_kept a_trial a_shelves a_tape a_paths a_sounds a_volumes a_refusals a_paths_steps a_paths_rest a_paths_counts a_paths_way a_paths_open a_paths_turnable a_paths_turned c_isKept c_paths_width c_paths_turned c_refusals)) (kQi D (va_A (cells_M_toldOfFewest cI cL cZ a_this a_now a_kept a_trial a_shelves a_tape a_paths a_sounds a_volumes a_refusals a_paths_steps a_paths_rest a_paths_counts a_paths_way a_paths_open a_paths_turnable a_paths_turned c_isKept c_paths_width c_paths_turned c_refusals) sz) (cells_M_toldOfFewest cI cL cZ a_this a_now a_kept a_trial a_shelves a_tape a_paths a_sounds a_volumes a_refusals a_paths_steps a_paths_rest a_paths_counts a_paths_way a_paths_open a_paths_turnable a_paths_turned c_isKept c_paths_width c_paths_turned x.2) x.1) 0 0 (va_A (cells_M_toldOfFewest cI cL cZ a_this a_now a_kept a_trial a_shelves a_tape a_paths a_sounds a_volumes a_refusals a_paths_steps a_paths_rest a_paths_counts a_paths_way a_paths_open a_paths_turnable a_paths_turned c_isKept c_paths_width c_paths_turned c_refusals) sz) :=
  kmet (by decide) (Nat.le_of_ble_eq_true rfl) rfl (fun p e s m below meth c C hE => s_M_toldOfFewest C hE h)
abbrev cells_M_raked (cI : ClassId) (cL : ClassId) (cZ : ClassId) (a_this : Nat) (a_now : Nat) (a_kept : Nat) (a_trial : Nat) (a_shelves : Nat) (a_tape : Nat) (a_paths : Nat) (a_sounds : Nat) (a_volumes : Nat) (a_refusals : Nat) (a_now_stones : Nat) (a_now_kinds : Nat) (a_now_weights : Nat) (a_now_chances : Nat) (a_paths_steps : Nat) (a_paths_rest : Nat) (a_paths_counts : Nat) (a_paths_way : Nat) (a_paths_open : Nat) (a_paths_turnable : Nat) (a_paths_turned : Nat) (c_isKept : Int32) (c_now_width : Int32) (c_now_rain : Int32) (c_now_ear : Int32) (c_now_walkers : Int32) (c_now_seed : Int32) (c_now_stones : (Nat → Int32)) (c_now_kinds : (Nat → Int32)) (c_now_weights : (Nat → Int32)) (c_paths_width : Int32) (c_paths_steps : (Nat → Int32)) (c_paths_open : (Nat → Int32)) (c_paths_turnable : (Nat → Int32)) (c_paths_turned : (Nat → Int32)) (c_refusals : (Nat → Int32)) : va_W := [(a_this, .inr (4, [.ref a_now, .ref a_kept, .ref a_trial, .ref a_shelves, .ref a_tape, .ref a_paths, .ref a_sounds, .ref a_volumes, .ref a_refusals, .int c_isKept])), (a_now, .inr (0, [.ref a_now_stones, .ref a_now_kinds, .ref a_now_weights, .ref a_now_chances, .int c_now_width, .int c_now_rain, .int c_now_ear, .int c_now_walkers, .int c_now_seed])), (a_now_stones, .inl (cI, 36, .inl c_now_stones)), (a_now_kinds, .inl (cI, 8, .inl c_now_kinds)), (a_now_weights, .inl (cI, 8, .inl c_now_weights)), (a_paths, .inr (1, [.ref a_paths_steps, .ref a_paths_rest, .ref a_paths_counts, .ref a_paths_way, .ref a_paths_open, .ref a_paths_turnable, .ref a_paths_turned, .int c_paths_width])), (a_paths_steps, .inl (cI, 36, .inl c_paths_steps)), (a_paths_open, .inl (cI, 6, .inl c_paths_open)), (a_paths_turnable, .inl (cZ, 36, .inl c_paths_turnable)), (a_paths_turned, .inl (cI, 2, .inl c_paths_turned)), (a_refusals, .inl (cI, 5, .inl c_refusals))]
abbrev rm_M_raked : Room := { frames := 5, cells := 0, slots := 0, locals := 121 }
set_option maxRecDepth 100000 in
set_option maxHeartbeats 4000000 in
theorem s_M_raked_j13 (C : kC p l e rm_M_raked s m args below meth c D (tyG cI cL cZ) A 4 cX4_raked yX4_raked.cls (Cond.code yX4_raked cX4_raked 4 (some .int) :: WS) (some .int)) {X : kX} (hE : kEs X A s) {a_this : Nat} {a_now : Nat} {a_kept : Nat} {a_trial : Nat} {a_shelves : Nat} {a_tape : Nat} {a_paths : Nat} {a_sounds : Nat} {a_volumes : Nat} {a_refusals : Nat} {a_now_stones : Nat} {a_now_kinds : Nat} {a_now_weights : Nat} {a_now_chances : Nat} {a_paths_steps : Nat} {a_paths_rest : Nat} {a_paths_counts : Nat} {a_paths_way : Nat} {a_paths_open : Nat} {a_paths_turnable : Nat} {a_paths_turned : Nat} {c_isKept : Int32} {c_now_width : Int32} {c_now_rain : Int32} {c_now_ear : Int32} {c_now_walkers : Int32} {c_now_seed : Int32} {c_now_stones : (Nat → Int32)} {c_now_kinds : (Nat → Int32)} {c_now_weights : (Nat → Int32)} {c_paths_width : Int32} {c_paths_steps : (Nat → Int32)} {c_paths_open : (Nat → Int32)} {c_paths_turnable : (Nat → Int32)} {c_paths_turned : (Nat → Int32)} {c_refusals : (Nat → Int32)} {x : (Int32 × Int32 × (Nat → Int32) × (Nat → Int32) × (Nat → Int32) × (Nat → Int32) × (Nat → Int32))} (h : f_M_raked_j13 c_paths_width c_paths_steps c_paths_open c_paths_turnable c_paths_turned c_refusals = some x) :
    kW p l e rm_M_raked s m args below meth c D A 4 (cells_M_raked cI cL cZ a_this a_now a_kept a_trial a_shelves a_tape a_paths a_sounds a_volumes a_refusals a_now_stones a_now_kinds a_now_weights a_now_chances a_paths_steps a_paths_rest a_paths_counts a_paths_way a_paths_open a_paths_turnable a_paths_turned c_isKept c_now_width c_now_rain c_now_ear c_now_walkers c_now_seed c_now_stones c_now_kinds c_now_weights c_paths_width c_paths_steps c_paths_open c_paths_turnable c_paths_turned c_refusals) [(0, .ref a_this)] (MQ below (kQi D A (cells_M_raked cI cL cZ a_this a_now a_kept a_trial a_shelves a_tape a_paths a_sounds a_volumes a_refusals a_now_stones a_now_kinds a_now_weights a_now_chances a_paths_steps a_paths_rest a_paths_counts a_paths_way a_paths_open a_paths_turnable a_paths_turned c_isKept c_now_width c_now_rain c_now_ear c_now_walkers c_now_seed c_now_stones c_now_kinds c_now_weights x.2.1 x.2.2.1 x.2.2.2.1 x.2.2.2.2.1 x.2.2.2.2.2.1 x.2.2.2.2.2.2) x.1) args s 0 0 A) 13 [] := by
  unfold f_M_raked_j13 at h
  refine k_aload_n C dX4_raked_13 0 rfl rfl ?_
  refine k_bipush C (v := (-2 : Int32)) dX4_raked_14 (by decide) ?_
  obtain ⟨x2, hx2, h⟩ := bindE h
  refine kcallU_i C (wc := (cells_M_refuse cI cL cZ a_this a_now a_kept a_trial a_shelves a_tape a_paths a_sounds a_volumes a_refusals c_isKept c_refusals)) (w1 := (cells_M_refuse cI cL cZ a_this a_now a_kept a_trial a_shelves a_tape a_paths a_sounds a_volumes a_refusals c_isKept x2.2)) (ws' := (cells_M_raked cI cL cZ a_this a_now a_kept a_trial a_shelves a_tape a_paths a_sounds a_volumes a_refusals a_now_stones a_now_kinds a_now_weights a_now_chances a_paths_steps a_paths_rest a_paths_counts a_paths_way a_paths_open a_paths_turnable a_paths_turned c_isKept c_now_width c_now_rain c_now_ear c_now_walkers c_now_seed c_now_stones c_now_kinds c_now_weights c_paths_width c_paths_steps c_paths_open c_paths_turnable c_paths_turned x2.2)) (r := x2.1) [0, 10] (fun H locs ls hP hD hS hF hz => krunV C (q0 := 0) (ci := 4) (c_M_refuse l D cI cL cZ H.size a_this a_now a_kept a_trial a_shelves a_tape a_paths a_sounds a_volumes a_refusals (-2 : Int32) c_isKept c_refusals x2 hx2) (cwV 1 C.2.2.2.2.1 (gV wq_12 wq_13 wq_14 wq_3 wq_11) rfl rfl rfl (by decide +kernel) ⟨(Nat.le_of_ble_eq_true rfl), (Nat.le_of_ble_eq_true rfl)⟩) rfl rfl kEnv_T rfl rfl (Nat.le_of_ble_eq_true rfl) dX4_raked_16 hP hD hz) rfl (by decide) rfl rfl ?_
  obtain rfl := Option.some.inj h
  exact kret_i C rfl dX4_raked_19
set_option maxRecDepth 100000 in
set_option maxHeartbeats 4000000 in
theorem s_M_raked_j92 (C : kC p l e rm_M_raked s m args below meth c D (tyG cI cL cZ) A 4 cX4_raked yX4_raked.cls (Cond.code yX4_raked cX4_raked 4 (some .int) :: WS) (some .int)) {X : kX} (hE : kEs X A s) {a_this : Nat} {a_now : Nat} {a_kept : Nat} {a_trial : Nat} {a_shelves : Nat} {a_tape : Nat} {a_paths : Nat} {a_sounds : Nat} {a_volumes : Nat} {a_refusals : Nat} {a_now_stones : Nat} {a_now_kinds : Nat} {a_now_weights : Nat} {a_now_chances : Nat} {a_paths_steps : Nat} {a_paths_rest : Nat} {a_paths_counts : Nat} {a_paths_way : Nat} {a_paths_open : Nat} {a_paths_turnable : Nat} {a_paths_turned : Nat} {v1 : Int32} {v2 : Int32} {v3 : Int32} {t1 : Int32} {t2 : Int32} {c_isKept : Int32} {c_now_width : Int32} {c_now_rain : Int32} {c_now_ear : Int32} {c_now_walkers : Int32} {c_now_seed : Int32} {c_now_stones : (Nat → Int32)} {c_now_kinds : (Nat → Int32)} {c_now_weights : (Nat → Int32)} {c_paths_width : Int32} {c_paths_steps : (Nat → Int32)} {c_paths_open : (Nat → Int32)} {c_paths_turnable : (Nat → Int32)} {c_paths_turned : (Nat → Int32)} {c_refusals : (Nat → Int32)} {x : ((Int32 × (Nat → Int32)) ⊕ (Nat → Int32))} (h : f_M_raked_j92 v3 t1 t2 c_paths_turnable = some x)
    (kc : ∀ s', x = .inl s' → kW p l e rm_M_raked s m args below meth c D A 4 (cells_M_raked cI cL cZ a_this a_now a_kept a_trial a_shelves a_tape a_paths a_sounds a_volumes a_refusals a_now_stones a_now_kinds a_now_weights a_now_chances a_paths_steps a_paths_rest a_paths_counts a_paths_way a_paths_open a_paths_turnable a_paths_turned c_isKept c_now_width c_now_rain c_now_ear c_now_walkers c_now_seed c_now_stones c_now_kinds c_now_weights c_paths_width c_paths_steps c_paths_open s'.2 c_paths_turned c_refusals) [(0, .ref a_this), (1, .int v1), (2, .int v2), (3, .int s'.1)] Q 41 [])
    (k0 : ∀ r, x = .inr r → kW p l e rm_M_raked s m args below meth c D A 4 (cells_M_raked cI cL cZ a_this a_now a_kept a_trial a_shelves a_tape a_paths a_sounds a_volumes a_refusals a_now_stones a_now_kinds a_now_weights a_now_chances a_paths_steps a_paths_rest a_paths_counts a_paths_way a_paths_open a_paths_turnable a_paths_turned c_isKept c_now_width c_now_rain c_now_ear c_now_walkers c_now_seed c_now_stones c_now_kinds c_now_weights c_paths_width c_paths_steps c_paths_open r c_paths_turned c_refusals) [(0, .ref a_this), (2, .int v2)] Q 101 []) :
    kW p l e rm_M_raked s m args below meth c D A 4 (cells_M_raked cI cL cZ a_this a_now a_kept a_trial a_shelves a_tape a_paths a_sounds a_volumes a_refusals a_now_stones a_now_kinds a_now_weights a_now_chances a_paths_steps a_paths_rest a_paths_counts a_paths_way a_paths_open a_paths_turnable a_paths_turned c_isKept c_now_width c_now_rain c_now_ear c_now_walkers c_now_seed c_now_stones c_now_kinds c_now_weights c_paths_width c_paths_steps c_paths_open c_paths_turnable c_paths_turned c_refusals) [(0, .ref a_this), (1, .int v1), (2, .int v2), (3, .int v3)] Q 92 [.int t2, .int t1, .ref a_paths] := by
  unfold f_M_raked_j92 at h
  obtain ⟨x7, hx7, h⟩ := bindE h
  refine kcallU_v C (wc := (cells_P_markTurnable cI cL cZ a_paths a_paths_steps a_paths_rest a_paths_counts a_paths_way a_paths_open a_paths_turnable a_paths_turned c_paths_width c_paths_turnable)) (w1 := (cells_P_markTurnable cI cL cZ a_paths a_paths_steps a_paths_rest a_paths_counts a_paths_way a_paths_open a_paths_turnable a_paths_turned c_paths_width x7)) (ws' := (cells_M_raked cI cL cZ a_this a_now a_kept a_trial a_shelves a_tape a_paths a_sounds a_volumes a_refusals a_now_stones a_now_kinds a_now_weights a_now_chances a_paths_steps a_paths_rest a_paths_counts a_paths_way a_paths_open a_paths_turnable a_paths_turned c_isKept c_now_width c_now_rain c_now_ear c_now_walkers c_now_seed c_now_stones c_now_kinds c_now_weights c_paths_width c_paths_steps c_paths_open x7 c_paths_turned c_refusals)) [5, 8] (fun H locs ls hP hD hS hF hz => krunV C (q0 := 0) (ci := 1) (c_P_markTurnable l D cI cL cZ X H.size a_paths a_paths_steps a_paths_rest a_paths_counts a_paths_way a_paths_open a_paths_turnable a_paths_turned t1 t2 c_paths_width c_paths_turnable x7 hx7) (cwV 2 C.2.2.2.2.1 (gV wq_369 wq_370 wq_371 wq_267 wq_368) rfl rfl rfl (by decide +kernel) ⟨(Nat.le_of_ble_eq_true rfl), (Nat.le_of_ble_eq_true rfl)⟩) rfl rfl (kEs_call hE hS hF) rfl rfl (Nat.le_of_ble_eq_true rfl) dX4_raked_92 hP hD hz) rfl (by decide) rfl rfl ?_
  refine k_iinc C (v := (v3 + (1 : Int32))) (lv' := [(3, .int (v3 + (1 : Int32))), (0, .ref a_this), (1, .int v1), (2, .int v2)]) dX4_raked_95 3 rfl rfl (by decide) rfl ?_
  refine k_goto C (tgt := 41) dX4_raked_98 (by decide) ?_
  refine k_lv (lv' := [(0, .ref a_this), (1, .int v1), (2, .int v2), (3, .int (v3 + (1 : Int32)))]) [1, 2, 3, 0] rfl ?_
  exact kc _ (Option.some.inj h).symm
set_option maxRecDepth 100000 in
set_option maxHeartbeats 4000000 in
theorem s_M_raked_j91 (C : kC p l e rm_M_raked s m args below meth c D (tyG cI cL cZ) A 4 cX4_raked yX4_raked.cls (Cond.code yX4_raked cX4_raked 4 (some .int) :: WS) (some .int)) {X : kX} (hE : kEs X A s) {a_this : Nat} {a_now : Nat} {a_kept : Nat} {a_trial : Nat} {a_shelves : Nat} {a_tape : Nat} {a_paths : Nat} {a_sounds : Nat} {a_volumes : Nat} {a_refusals : Nat} {a_now_stones : Nat} {a_now_kinds : Nat} {a_now_weights : Nat} {a_now_chances : Nat} {a_paths_steps : Nat} {a_paths_rest : Nat} {a_paths_counts : Nat} {a_paths_way : Nat} {a_paths_open : Nat} {a_paths_turnable : Nat} {a_paths_turned : Nat} {v1 : Int32} {v2 : Int32} {v3 : Int32} {t1 : Int32} {c_isKept : Int32} {c_now_width : Int32} {c_now_rain : Int32} {c_now_ear : Int32} {c_now_walkers : Int32} {c_now_seed : Int32} {c_now_stones : (Nat → Int32)} {c_now_kinds : (Nat → Int32)} {c_now_weights : (Nat → Int32)} {c_paths_width : Int32} {c_paths_steps : (Nat → Int32)} {c_paths_open : (Nat → Int32)} {c_paths_turnable : (Nat → Int32)} {c_paths_turned : (Nat → Int32)} {c_refusals : (Nat → Int32)} {x : ((Int32 × (Nat → Int32)) ⊕ (Nat → Int32))} (h : f_M_raked_j91 v3 t1 c_paths_turnable = some x)
    (kc : ∀ s', x = .inl s' → kW p l e rm_M_raked s m args below meth c D A 4 (cells_M_raked cI cL cZ a_this a_now a_kept a_trial a_shelves a_tape a_paths a_sounds a_volumes a_refusals a_now_stones a_now_kinds a_now_weights a_now_chances a_paths_steps a_paths_rest a_paths_counts a_paths_way a_paths_open a_paths_turnable a_paths_turned c_isKept c_now_width c_now_rain c_now_ear c_now_walkers c_now_seed c_now_stones c_now_kinds c_now_weights c_paths_width c_paths_steps c_paths_open s'.2 c_paths_turned c_refusals) [(0, .ref a_this), (1, .int v1), (2, .int v2), (3, .int s'.1)] Q 41 [])
    (k0 : ∀ r, x = .inr r → kW p l e rm_M_raked s m args below meth c D A 4 (cells_M_raked cI cL cZ a_this a_now a_kept a_trial a_shelves a_tape a_paths a_sounds a_volumes a_refusals a_now_stones a_now_kinds a_now_weights a_now_chances a_paths_steps a_paths_rest a_paths_counts a_paths_way a_paths_open a_paths_turnable a_paths_turned c_isKept c_now_width c_now_rain c_now_ear c_now_walkers c_now_seed c_now_stones c_now_kinds c_now_weights c_paths_width c_paths_steps c_paths_open r c_paths_turned c_refusals) [(0, .ref a_this), (2, .int v2)] Q 101 []) :
    kW p l e rm_M_raked s m args below meth c D A 4 (cells_M_raked cI cL cZ a_this a_now a_kept a_trial a_shelves a_tape a_paths a_sounds a_volumes a_refusals a_now_stones a_now_kinds a_now_weights a_now_chances a_paths_steps a_paths_rest a_paths_counts a_paths_way a_paths_open a_paths_turnable a_paths_turned c_isKept c_now_width c_now_rain c_now_ear c_now_walkers c_now_seed c_now_stones c_now_kinds c_now_weights c_paths_width c_paths_steps c_paths_open c_paths_turnable c_paths_turned c_refusals) [(0, .ref a_this), (1, .int v1), (2, .int v2), (3, .int v3)] Q 91 [.int t1, .ref a_paths] := by
  unfold f_M_raked_j91 at h
  refine k_iconst C (v := (0 : Int32)) dX4_raked_91 (by decide) ?_
  exact s_M_raked_j92 C hE h kc k0
set_option maxRecDepth 100000 in
set_option maxHeartbeats 4000000 in
theorem s_M_raked_b41 (C : kC p l e rm_M_raked s m args below meth c D (tyG cI cL cZ) A 4 cX4_raked yX4_raked.cls (Cond.code yX4_raked cX4_raked 4 (some .int) :: WS) (some .int)) {X : kX} (hE : kEs X A s) {a_this : Nat} {a_now : Nat} {a_kept : Nat} {a_trial : Nat} {a_shelves : Nat} {a_tape : Nat} {a_paths : Nat} {a_sounds : Nat} {a_volumes : Nat} {a_refusals : Nat} {a_now_stones : Nat} {a_now_kinds : Nat} {a_now_weights : Nat} {a_now_chances : Nat} {a_paths_steps : Nat} {a_paths_rest : Nat} {a_paths_counts : Nat} {a_paths_way : Nat} {a_paths_open : Nat} {a_paths_turnable : Nat} {a_paths_turned : Nat} {v1 : Int32} {v2 : Int32} {v3 : Int32} {c_isKept : Int32} {c_now_width : Int32} {c_now_rain : Int32} {c_now_ear : Int32} {c_now_walkers : Int32} {c_now_seed : Int32} {c_now_stones : (Nat → Int32)} {c_now_kinds : (Nat → Int32)} {c_now_weights : (Nat → Int32)} {c_paths_width : Int32} {c_paths_steps : (Nat → Int32)} {c_paths_open : (Nat → Int32)} {c_paths_turnable : (Nat → Int32)} {c_paths_turned : (Nat → Int32)} {c_refusals : (Nat → Int32)} {x : ((Int32 × (Nat → Int32)) ⊕ (Nat → Int32))} (h : f_M_raked_b41 v1 c_now_width c_now_rain c_now_ear c_now_kinds c_now_weights c_paths_steps v3 c_paths_turnable = some x)
    (kc : ∀ s', x = .inl s' → kW p l e rm_M_raked s m args below meth c D A 4 (cells_M_raked cI cL cZ a_this a_now a_kept a_trial a_shelves a_tape a_paths a_sounds a_volumes a_refusals a_now_stones a_now_kinds a_now_weights a_now_chances a_paths_steps a_paths_rest a_paths_counts a_paths_way a_paths_open a_paths_turnable a_paths_turned c_isKept c_now_width c_now_rain c_now_ear c_now_walkers c_now_seed c_now_stones c_now_kinds c_now_weights c_paths_width c_paths_steps c_paths_open s'.2 c_paths_turned c_refusals) [(0, .ref a_this), (1, .int v1), (2, .int v2), (3, .int s'.1)] Q 41 [])
    (k0 : ∀ r, x = .inr r → kW p l e rm_M_raked s m args below meth c D A 4 (cells_M_raked cI cL cZ a_this a_now a_kept a_trial a_shelves a_tape a_paths a_sounds a_volumes a_refusals a_now_stones a_now_kinds a_now_weights a_now_chances a_paths_steps a_paths_rest a_paths_counts a_paths_way a_paths_open a_paths_turnable a_paths_turned c_isKept c_now_width c_now_rain c_now_ear c_now_walkers c_now_seed c_now_stones c_now_kinds c_now_weights c_paths_width c_paths_steps c_paths_open r c_paths_turned c_refusals) [(0, .ref a_this), (2, .int v2)] Q 101 []) :
    kW p l e rm_M_raked s m args below meth c D A 4 (cells_M_raked cI cL cZ a_this a_now a_kept a_trial a_shelves a_tape a_paths a_sounds a_volumes a_refusals a_now_stones a_now_kinds a_now_weights a_now_chances a_paths_steps a_paths_rest a_paths_counts a_paths_way a_paths_open a_paths_turnable a_paths_turned c_isKept c_now_width c_now_rain c_now_ear c_now_walkers c_now_seed c_now_stones c_now_kinds c_now_weights c_paths_width c_paths_steps c_paths_open c_paths_turnable c_paths_turned c_refusals) [(0, .ref a_this), (1, .int v1), (2, .int v2), (3, .int v3)] Q 41 [] := by
  unfold f_M_raked_b41 at h
  refine k_iload_n C dX4_raked_41 3 rfl rfl ?_
  refine k_aload_n C dX4_raked_42 0 rfl rfl ?_
  refine k_get C (C0 := RX4) (T := TX4) (N := 10) (fun w h => List.mem_cons_of_mem _ (us_M w h)) 0 rfl rfl 0 (by decide) (List.mem_cons_of_mem _ wq_67) rfl rfl dX4_raked_43 ?_
  obtain ⟨x5, hx5, h⟩ := bindE h
  refine kcallR_i C (wc := (cells_D_cells cI cL cZ a_now a_now_stones a_now_kinds a_now_weights a_now_chances c_now_width c_now_rain c_now_ear c_now_walkers c_now_seed)) (r := x5) [1] (fun H locs ls hP hD hS hF hz => krunV C (q0 := 0) (ci := 0) (c_D_cells l D cI cL cZ H.size a_now a_now_stones a_now_kinds a_now_weights a_now_chances c_now_width c_now_rain c_now_ear c_now_walkers c_now_seed x5 hx5) (cwV 0 C.2.2.2.2.1 (gV wq_132 wq_133 wq_134 wq_72 wq_131) rfl rfl rfl (by decide +kernel) ⟨(Nat.le_of_ble_eq_true rfl), (Nat.le_of_ble_eq_true rfl)⟩) rfl rfl kEnv_T rfl rfl (Nat.le_of_ble_eq_true rfl) dX4_raked_46 hP hD hz) rfl (by decide) ?_
  refine k_icmp_ge C (tgt := 101) dX4_raked_49 (by decide) (fun c_49 => ?_) (fun c_49 => ?_)
  · have h := ifT c_49 h
    refine k_lv (lv' := [(0, .ref a_this), (2, .int v2)]) [0, 2] rfl ?_
    exact k0 _ (Option.some.inj h).symm
  · have h := ifF c_49 h
    refine k_aload_n C dX4_raked_52 0 rfl rfl ?_
    refine k_get C (C0 := RX4) (T := TX4) (N := 10) (fun w h => List.mem_cons_of_mem _ (us_M w h)) 0 rfl rfl 5 (by decide) (List.mem_cons_of_mem _ wq_257) rfl rfl dX4_raked_53 ?_
    refine k_iload_n C dX4_raked_56 3 rfl rfl ?_
    refine k_aload_n C dX4_raked_57 0 rfl rfl ?_
    refine k_get C (C0 := RX4) (T := TX4) (N := 10) (fun w h => List.mem_cons_of_mem _ (us_M w h)) 0 rfl rfl 5 (by decide) (List.mem_cons_of_mem _ wq_257) rfl rfl dX4_raked_58 ?_
    refine k_iload_n C dX4_raked_61 3 rfl rfl ?_
    obtain ⟨x6, hx6, h⟩ := bindE h
    refine kcallR_i C (wc := (cells_P_stepOn cI cL cZ a_paths a_paths_steps a_paths_rest a_paths_counts a_paths_way a_paths_open a_paths_turnable a_paths_turned c_paths_width c_paths_steps)) (r := x6) [5, 6] (fun H locs ls hP hD hS hF hz => krunV C (q0 := 0) (ci := 1) (c_P_stepOn l D cI cL cZ X H.size a_paths a_paths_steps a_paths_rest a_paths_counts a_paths_way a_paths_open a_paths_turnable a_paths_turned v3 c_paths_width c_paths_steps x6 hx6) (cwV 1 C.2.2.2.2.1 (gV wq_365 wq_366 wq_367 wq_267 wq_364) rfl rfl rfl (by decide +kernel) ⟨(Nat.le_of_ble_eq_true rfl), (Nat.le_of_ble_eq_true rfl)⟩) rfl rfl (kEs_call hE hS hF) rfl rfl (Nat.le_of_ble_eq_true rfl) dX4_raked_62 hP hD hz) rfl (by decide) ?_
    refine k_if_ne C (tgt := 91) dX4_raked_65 (by decide) (fun c_65 => ?_) (fun c_65 => ?_)
    · have h := ifF c_65 h
      exact s_M_raked_j91 C hE h kc k0
    · have h := ifT c_65 h
      refine k_aload_n C dX4_raked_68 0 rfl rfl ?_
      refine k_get C (C0 := RX4) (T := TX4) (N := 10) (fun w h => List.mem_cons_of_mem _ (us_M w h)) 0 rfl rfl 0 (by decide) (List.mem_cons_of_mem _ wq_67) rfl rfl dX4_raked_69 ?_
      refine k_iload_n C dX4_raked_72 1 rfl rfl ?_
      refine k_iload_n C dX4_raked_73 3 rfl rfl ?_
      obtain ⟨x8, hx8, h⟩ := bindE h
      refine kcallR_i C (wc := (cells_D_raisedStep cI cL cZ a_now a_now_stones a_now_kinds a_now_weights a_now_chances c_now_width c_now_rain c_now_ear c_now_walkers c_now_seed c_now_kinds c_now_weights)) (r := x8) [1, 3, 4] (fun H locs ls hP hD hS hF hz => krunV C (q0 := 0) (ci := 0) (c_D_raisedStep l D cI cL cZ X H.size a_now a_now_stones a_now_kinds a_now_weights a_now_chances v1 v3 c_now_width c_now_rain c_now_ear c_now_walkers c_now_seed c_now_kinds c_now_weights x8 hx8) (cwV 2 C.2.2.2.2.1 (gV wq_373 wq_374 wq_375 wq_72 wq_372) rfl rfl rfl (by decide +kernel) ⟨(Nat.le_of_ble_eq_true rfl), (Nat.le_of_ble_eq_true rfl)⟩) rfl rfl (kEs_call hE hS hF) rfl rfl (Nat.le_of_ble_eq_true rfl) dX4_raked_74 hP hD hz) rfl (by decide) ?_
      refine k_aload_n C dX4_raked_77 0 rfl rfl ?_
      refine k_get C (C0 := RX4) (T := TX4) (N := 10) (fun w h => List.mem_cons_of_mem _ (us_M w h)) 0 rfl rfl 0 (by decide) (List.mem_cons_of_mem _ wq_67) rfl rfl dX4_raked_78 ?_
      refine k_get C (C0 := RX0) (T := TX0) (N := 9) (fun w h => List.mem_cons_of_mem _ (us_D w h)) 1 rfl rfl 6 (by decide) (List.mem_cons_of_mem _ wq_144) rfl rfl dX4_raked_81 ?_
      refine k_icmp_lt C (tgt := 91) dX4_raked_84 (by decide) (fun c_84 => ?_) (fun c_84 => ?_)
      · have h := ifT c_84 h
        exact s_M_raked_j91 C hE h kc k0
      · have h := ifF c_84 h
        refine k_iconst C (v := (1 : Int32)) dX4_raked_87 (by decide) ?_
        refine k_goto C (tgt := 92) dX4_raked_88 (by decide) ?_
        exact s_M_raked_j92 C hE h kc k0
set_option maxRecDepth 100000 in
set_option maxHeartbeats 4000000 in
theorem s_M_raked_l41 (C : kC p l e rm_M_raked s m args below meth c D (tyG cI cL cZ) A 4 cX4_raked yX4_raked.cls (Cond.code yX4_raked cX4_raked 4 (some .int) :: WS) (some .int)) {X : kX} (hE : kEs X A s) {a_this : Nat} {a_now : Nat} {a_kept : Nat} {a_trial : Nat} {a_shelves : Nat} {a_tape : Nat} {a_paths : Nat} {a_sounds : Nat} {a_volumes : Nat} {a_refusals : Nat} {a_now_stones : Nat} {a_now_kinds : Nat} {a_now_weights : Nat} {a_now_chances : Nat} {a_paths_steps : Nat} {a_paths_rest : Nat} {a_paths_counts : Nat} {a_paths_way : Nat} {a_paths_open : Nat} {a_paths_turnable : Nat} {a_paths_turned : Nat} {v1 : Int32} {v2 : Int32} {v3 : Int32} {c_isKept : Int32} {c_now_width : Int32} {c_now_rain : Int32} {c_now_ear : Int32} {c_now_walkers : Int32} {c_now_seed : Int32} {c_now_stones : (Nat → Int32)} {c_now_kinds : (Nat → Int32)} {c_now_weights : (Nat → Int32)} {c_paths_width : Int32} {c_paths_steps : (Nat → Int32)} {c_paths_open : (Nat → Int32)} {c_paths_turnable : (Nat → Int32)} {c_paths_turned : (Nat → Int32)} {c_refusals : (Nat → Int32)} {x : (Nat → Int32)} (h : f_M_raked_l41 v1 c_now_width c_now_rain c_now_ear c_now_kinds c_now_weights c_paths_steps v3 c_paths_turnable = some x)
    (k0 : kW p l e rm_M_raked s m args below meth c D A 4 (cells_M_raked cI cL cZ a_this a_now a_kept a_trial a_shelves a_tape a_paths a_sounds a_volumes a_refusals a_now_stones a_now_kinds a_now_weights a_now_chances a_paths_steps a_paths_rest a_paths_counts a_paths_way a_paths_open a_paths_turnable a_paths_turned c_isKept c_now_width c_now_rain c_now_ear c_now_walkers c_now_seed c_now_stones c_now_kinds c_now_weights c_paths_width c_paths_steps c_paths_open x c_paths_turned c_refusals) [(0, .ref a_this), (2, .int v2)] Q 101 []) :
    kW p l e rm_M_raked s m args below meth c D A 4 (cells_M_raked cI cL cZ a_this a_now a_kept a_trial a_shelves a_tape a_paths a_sounds a_volumes a_refusals a_now_stones a_now_kinds a_now_weights a_now_chances a_paths_steps a_paths_rest a_paths_counts a_paths_way a_paths_open a_paths_turnable a_paths_turned c_isKept c_now_width c_now_rain c_now_ear c_now_walkers c_now_seed c_now_stones c_now_kinds c_now_weights c_paths_width c_paths_steps c_paths_open c_paths_turnable c_paths_turned c_refusals) [(0, .ref a_this), (1, .int v1), (2, .int v2), (3, .int v3)] Q 41 [] := by
  unfold f_M_raked_l41 at h
  exact iter_W (body := fun s => f_M_raked_b41 v1 c_now_width c_now_rain c_now_ear c_now_kinds c_now_weights c_paths_steps s.1 s.2) (r := x) (T := fun sg => kW p l e rm_M_raked s m args below meth c D A 4 (cells_M_raked cI cL cZ a_this a_now a_kept a_trial a_shelves a_tape a_paths a_sounds a_volumes a_refusals a_now_stones a_now_kinds a_now_weights a_now_chances a_paths_steps a_paths_rest a_paths_counts a_paths_way a_paths_open a_paths_turnable a_paths_turned c_isKept c_now_width c_now_rain c_now_ear c_now_walkers c_now_seed c_now_stones c_now_kinds c_now_weights c_paths_width c_paths_steps c_paths_open sg.2 c_paths_turned c_refusals) [(0, .ref a_this), (1, .int v1), (2, .int v2), (3, .int sg.1)] Q 41 []) (fun sg y hy hc _ hr => s_M_raked_b41 C hE (v1 := v1) (v2 := v2) (v3 := sg.1) (c_isKept := c_isKept) (c_now_width := c_now_width) (c_now_rain := c_now_rain) (c_now_ear := c_now_ear) (c_now_walkers := c_now_walkers) (c_now_seed := c_now_seed) (c_now_stones := c_now_stones) (c_now_kinds := c_now_kinds) (c_now_weights := c_now_weights) (c_paths_width := c_paths_width) (c_paths_steps := c_paths_steps) (c_paths_open := c_paths_open) (c_paths_turnable := sg.2) (c_paths_turned := c_paths_turned) (c_refusals := c_refusals) (x := y) hy hc (fun r e => by rw [hr r e]; exact k0)) FUEL (v3, c_paths_turnable) h

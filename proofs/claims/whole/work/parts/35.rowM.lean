variable {p : Program} {l : Launch} {e : Env} {s : State} {m : MethodId} {args : Array Value} {below : List Frame} {meth : Method} {c : Code} {D : va_G} {A : Nat → Prop} {cI cL cZ : ClassId} {Q : State → Prop}
abbrev cells_P_length (cI : ClassId) (cL : ClassId) (cZ : ClassId) (a_this : Nat) (a_steps : Nat) (a_rest : Nat) (a_counts : Nat) (a_way : Nat) (a_open : Nat) (a_turnable : Nat) (a_turned : Nat) (c_width : Int32) : va_W := [(a_this, .inr (1, [.ref a_steps, .ref a_rest, .ref a_counts, .ref a_way, .ref a_open, .ref a_turnable, .ref a_turned, .int c_width]))]
abbrev rm_P_length : Room := { frames := 1, cells := 0, slots := 0, locals := 32 }
set_option maxRecDepth 100000 in
set_option maxHeartbeats 4000000 in
theorem s_P_length (C : kC p l e rm_P_length s m args below meth c D (tyG cI cL cZ) A 1 cX1_length yX1_length.cls (Cond.code yX1_length cX1_length 1 (some .int) :: WS) (some .int)) {a_this : Nat} {a_steps : Nat} {a_rest : Nat} {a_counts : Nat} {a_way : Nat} {a_open : Nat} {a_turnable : Nat} {a_turned : Nat} {c_width : Int32} {x : Int32} (h : f_P_length c_width = some x) :
    kW p l e rm_P_length s m args below meth c D A 1 (cells_P_length cI cL cZ a_this a_steps a_rest a_counts a_way a_open a_turnable a_turned c_width) [(0, .ref a_this)] (MQ below (kQi D A (cells_P_length cI cL cZ a_this a_steps a_rest a_counts a_way a_open a_turnable a_turned c_width) x) args s 0 0 A) 0 [] := by
  unfold f_P_length at h
  refine k_aload_n C dX1_length_0 0 rfl rfl ?_
  refine k_get C (C0 := RX1) (T := TX1) (N := 8) (fun w h => List.mem_cons_of_mem _ (us_P w h)) 0 rfl rfl 7 (by decide) (List.mem_cons_of_mem _ wq_268) rfl rfl dX1_length_1 ?_
  refine k_bipush C (v := (6 : Int32)) dX1_length_4 (by decide) ?_
  refine k_mmin C (List.mem_cons_of_mem _ wq_269) (List.mem_cons_of_mem _ wq_64) (List.mem_cons_of_mem _ wq_65) (List.mem_cons_of_mem _ wq_66) (Nat.le_of_ble_eq_true rfl) (Nat.le_of_ble_eq_true rfl) dX1_length_6 ?_
  obtain rfl := Option.some.inj h
  exact kret_i C rfl dX1_length_9
theorem c_P_length (l : Launch) (D : va_G) (cI : ClassId) (cL : ClassId) (cZ : ClassId) (sz : Nat) (a_this : Nat) (a_steps : Nat) (a_rest : Nat) (a_counts : Nat) (a_way : Nat) (a_open : Nat) (a_turnable : Nat) (a_turned : Nat) (c_width : Int32) (x : Int32) (h : f_P_length c_width = some x) :
    Met l yX1_length (Cond.code yX1_length cX1_length 1 (some .int) :: WS) rm_P_length (kP D (tyG cI cL cZ) kTrue [.ref a_this] sz (cells_P_length cI cL cZ a_this a_steps a_rest a_counts a_way a_open a_turnable a_turned c_width)) (kQi D (va_A (cells_P_length cI cL cZ a_this a_steps a_rest a_counts a_way a_open a_turnable a_turned c_width) sz) (cells_P_length cI cL cZ a_this a_steps a_rest a_counts a_way a_open a_turnable a_turned c_width) x) 0 0 (va_A (cells_P_length cI cL cZ a_this a_steps a_rest a_counts a_way a_open a_turnable a_turned c_width) sz) :=
  kmet (by decide) (Nat.le_of_ble_eq_true rfl) rfl (fun p e s m below meth c C hE => s_P_length C h)
abbrev cells_P_cellIn (cI : ClassId) (cL : ClassId) (cZ : ClassId) (a_this : Nat) (a_steps : Nat) (a_rest : Nat) (a_counts : Nat) (a_way : Nat) (a_open : Nat) (a_turnable : Nat) (a_turned : Nat) (c_width : Int32) : va_W := [(a_this, .inr (1, [.ref a_steps, .ref a_rest, .ref a_counts, .ref a_way, .ref a_open, .ref a_turnable, .ref a_turned, .int c_width]))]
abbrev rm_P_cellIn : Room := { frames := 2, cells := 0, slots := 0, locals := 52 }
set_option maxRecDepth 100000 in
set_option maxHeartbeats 4000000 in
theorem s_P_cellIn (C : kC p l e rm_P_cellIn s m args below meth c D (tyG cI cL cZ) A 4 cX1_cellIn yX1_cellIn.cls (Cond.code yX1_cellIn cX1_cellIn 4 (some .int) :: WS) (some .int)) {X : kX} (hE : kEs X A s) {a_this : Nat} {a_steps : Nat} {a_rest : Nat} {a_counts : Nat} {a_way : Nat} {a_open : Nat} {a_turnable : Nat} {a_turned : Nat} {v1 : Int32} {v2 : Int32} {c_width : Int32} {x : Int32} (h : f_P_cellIn v1 v2 c_width = some x) :
    kW p l e rm_P_cellIn s m args below meth c D A 4 (cells_P_cellIn cI cL cZ a_this a_steps a_rest a_counts a_way a_open a_turnable a_turned c_width) [(0, .ref a_this), (1, .int v1), (2, .int v2)] (MQ below (kQi D A (cells_P_cellIn cI cL cZ a_this a_steps a_rest a_counts a_way a_open a_turnable a_turned c_width) x) args s 0 0 A) 0 [] := by
  unfold f_P_cellIn at h
  refine k_iload_n C dX1_cellIn_0 1 rfl rfl ?_
  refine k_aload_n C dX1_cellIn_1 0 rfl rfl ?_
  obtain ⟨x1, hx1, h⟩ := bindE h
  refine kcallR_i C (wc := (cells_P_length cI cL cZ a_this a_steps a_rest a_counts a_way a_open a_turnable a_turned c_width)) (r := x1) [0] (fun H locs ls hP hD hS hF hz => krunV C (q0 := 0) (ci := 1) (c_P_length l D cI cL cZ H.size a_this a_steps a_rest a_counts a_way a_open a_turnable a_turned c_width x1 hx1) (cwV 0 C.2.2.2.2.1 (gV wq_271 wq_272 wq_273 wq_267 wq_270) rfl rfl rfl (by decide +kernel) ⟨(Nat.le_of_ble_eq_true rfl), (Nat.le_of_ble_eq_true rfl)⟩) rfl rfl kEnv_T rfl rfl (Nat.le_of_ble_eq_true rfl) dX1_cellIn_2 hP hD hz) rfl (by decide) ?_
  refine k_imul C dX1_cellIn_5 ?_
  refine k_iload_n C dX1_cellIn_6 2 rfl rfl ?_
  refine k_iadd C dX1_cellIn_7 ?_
  refine k_istore_n C (lv' := [(3, .int ((v1 * x1) + v2)), (0, .ref a_this), (1, .int v1), (2, .int v2)]) dX1_cellIn_8 rfl (by decide) rfl ?_
  refine k_iload_n C dX1_cellIn_9 0 rfl rfl ?_
  refine k_iconst C (v := (0 : Int32)) dX1_cellIn_10 (by decide) ?_
  refine k_bipush C (v := (35 : Int32)) dX1_cellIn_11 (by decide) ?_
  obtain ⟨x2, hx2, h⟩ := bindE h
  refine kcallE_i C (r := x2) (fun H locs ls hP hD hS hF hz => krunSN C (c_M_isWithin l D cI cL cZ H.size ((v1 * x1) + v2) (0 : Int32) (35 : Int32) x2 hx2) ⟨va_cnB 3 C.2.2.2.2.1 (gW wq_0) rfl rfl rfl (hE.2.2.2.2.2.2.2 (RX1, 48, yX4_isWithin) (by decide +kernel)) (C.2.2.2.2.1 _ (List.mem_cons_of_mem _ wq_3)) (by decide +kernel) ⟨(Nat.le_of_ble_eq_true rfl), (Nat.le_of_ble_eq_true rfl)⟩, C.2.2.2.2.1 _ (List.mem_cons_of_mem _ wq_2), trivial⟩ kEnv_T rfl rfl (Nat.le_of_ble_eq_true rfl) dX1_cellIn_13 hP hD hz) ?_
  refine k_if_eq C (tgt := 23) dX1_cellIn_16 (by decide) (fun c_16 => ?_) (fun c_16 => ?_)
  · have h := ifT c_16 h
    refine k_iconst C (v := (0 : Int32)) dX1_cellIn_23 (by decide) ?_
    obtain rfl := Option.some.inj h
    exact kret_i C rfl dX1_cellIn_24
  · have h := ifF c_16 h
    refine k_iload_n C dX1_cellIn_19 0 rfl rfl ?_
    refine k_goto C (tgt := 24) dX1_cellIn_20 (by decide) ?_
    obtain rfl := Option.some.inj h
    exact kret_i C rfl dX1_cellIn_24
theorem c_P_cellIn (l : Launch) (D : va_G) (cI : ClassId) (cL : ClassId) (cZ : ClassId) (X : kX) (sz : Nat) (a_this : Nat) (a_steps : Nat) (a_rest : Nat) (a_counts : Nat) (a_way : Nat) (a_open : Nat) (a_turnable : Nat) (a_turned : Nat) (v1 : Int32) (v2 : Int32) (c_width : Int32) (x : Int32) (h : f_P_cellIn v1 v2 c_width = some x) :
    Met l yX1_cellIn (Cond.code yX1_cellIn cX1_cellIn 4 (some .int) :: WS) rm_P_cellIn (kP D (tyG cI cL cZ) (kEs X (va_A (cells_P_cellIn cI cL cZ a_this a_steps a_rest a_counts a_way a_open a_turnable a_turned c_width) sz)) [.ref a_this, .int v1, .int v2] sz (cells_P_cellIn cI cL cZ a_this a_steps a_rest a_counts a_way a_open a_turnable a_turned c_width)) (kQi D (va_A (cells_P_cellIn cI cL cZ a_this a_steps a_rest a_counts a_way a_open a_turnable a_turned c_width) sz) (cells_P_cellIn cI cL cZ a_this a_steps a_rest a_counts a_way a_open a_turnable a_turned c_width) x) 0 0 (va_A (cells_P_cellIn cI cL cZ a_this a_steps a_rest a_counts a_way a_open a_turnable a_turned c_width) sz) :=
  kmet (by decide) (Nat.le_of_ble_eq_true rfl) rfl (fun p e s m below meth c C hE => s_P_cellIn C hE h)
abbrev cells_P_leastBehind (cI : ClassId) (cL : ClassId) (cZ : ClassId) (a_this : Nat) (a_steps : Nat) (a_rest : Nat) (a_counts : Nat) (a_way : Nat) (a_open : Nat) (a_turnable : Nat) (a_turned : Nat) (c_width : Int32) (c_rest : (Nat → Int32)) : va_W := [(a_this, .inr (1, [.ref a_steps, .ref a_rest, .ref a_counts, .ref a_way, .ref a_open, .ref a_turnable, .ref a_turned, .int c_width])), (a_rest, .inl (cI, 36, .inl c_rest))]
abbrev rm_P_leastBehind : Room := { frames := 3, cells := 0, slots := 0, locals := 75 }
set_option maxRecDepth 100000 in
set_option maxHeartbeats 4000000 in
theorem s_P_leastBehind_b24 (C : kC p l e rm_P_leastBehind s m args below meth c D (tyG cI cL cZ) A 5 cX1_leastBehind yX1_leastBehind.cls (Cond.code yX1_leastBehind cX1_leastBehind 5 (some .int) :: WS) (some .int)) {X : kX} (hE : kEs X A s) {a_this : Nat} {a_steps : Nat} {a_rest : Nat} {a_counts : Nat} {a_way : Nat} {a_open : Nat} {a_turnable : Nat} {a_turned : Nat} {v1 : Int32} {v2 : Int32} {v3 : Int32} {v4 : Int32} {c_width : Int32} {c_rest : (Nat → Int32)} {x : ((Int32 × Int32) ⊕ Int32)} (h : f_P_leastBehind_b24 v1 v2 c_width c_rest v3 v4 = some x)
    (kc : ∀ s', x = .inl s' → kW p l e rm_P_leastBehind s m args below meth c D A 5 (cells_P_leastBehind cI cL cZ a_this a_steps a_rest a_counts a_way a_open a_turnable a_turned c_width c_rest) [(0, .ref a_this), (1, .int v1), (2, .int v2), (3, .int s'.1), (4, .int s'.2)] Q 24 [])
    (k0 : ∀ r, x = .inr r → kW p l e rm_P_leastBehind s m args below meth c D A 5 (cells_P_leastBehind cI cL cZ a_this a_steps a_rest a_counts a_way a_open a_turnable a_turned c_width c_rest) [(3, .int r)] Q 66 []) :
    kW p l e rm_P_leastBehind s m args below meth c D A 5 (cells_P_leastBehind cI cL cZ a_this a_steps a_rest a_counts a_way a_open a_turnable a_turned c_width c_rest) [(0, .ref a_this), (1, .int v1), (2, .int v2), (3, .int v3), (4, .int v4)] Q 24 [] := by
  unfold f_P_leastBehind_b24 at h
  refine k_iload C dX1_leastBehind_24 4 rfl ?_
  refine k_aload_n C dX1_leastBehind_26 0 rfl rfl ?_
  obtain ⟨x2, hx2, h⟩ := bindE h
  refine kcallR_i C (wc := (cells_P_length cI cL cZ a_this a_steps a_rest a_counts a_way a_open a_turnable a_turned c_width)) (r := x2) [0] (fun H locs ls hP hD hS hF hz => krunV C (q0 := 0) (ci := 1) (c_P_length l D cI cL cZ H.size a_this a_steps a_rest a_counts a_way a_open a_turnable a_turned c_width x2 hx2) (cwV 0 C.2.2.2.2.1 (gV wq_271 wq_272 wq_273 wq_267 wq_270) rfl rfl rfl (by decide +kernel) ⟨(Nat.le_of_ble_eq_true rfl), (Nat.le_of_ble_eq_true rfl)⟩) rfl rfl kEnv_T rfl rfl (Nat.le_of_ble_eq_true rfl) dX1_leastBehind_27 hP hD hz) rfl (by decide) ?_
  refine k_iconst C (v := (1 : Int32)) dX1_leastBehind_30 (by decide) ?_
  refine k_isub C dX1_leastBehind_31 ?_
  refine k_iload_n C dX1_leastBehind_32 2 rfl rfl ?_
  refine k_iconst C (v := (1 : Int32)) dX1_leastBehind_33 (by decide) ?_
  refine k_iadd C dX1_leastBehind_34 ?_
  refine k_mmin C (List.mem_cons_of_mem _ wq_269) (List.mem_cons_of_mem _ wq_64) (List.mem_cons_of_mem _ wq_65) (List.mem_cons_of_mem _ wq_66) (Nat.le_of_ble_eq_true rfl) (Nat.le_of_ble_eq_true rfl) dX1_leastBehind_35 ?_
  refine k_icmp_gt C (tgt := 66) dX1_leastBehind_38 (by decide) (fun c_38 => ?_) (fun c_38 => ?_)
  · have h := ifT c_38 h
    refine k_lv (lv' := [(3, .int v3)]) [3] rfl ?_
    exact k0 _ (Option.some.inj h).symm
  · have h := ifF c_38 h
    refine k_iload_n C dX1_leastBehind_41 3 rfl rfl ?_
    refine k_aload_n C dX1_leastBehind_42 0 rfl rfl ?_
    refine k_get C (C0 := RX1) (T := TX1) (N := 8) (fun w h => List.mem_cons_of_mem _ (us_P w h)) 0 rfl rfl 1 (by decide) (List.mem_cons_of_mem _ wq_276) rfl rfl dX1_leastBehind_43 ?_
    refine k_aload_n C dX1_leastBehind_46 0 rfl rfl ?_
    refine k_iload_n C dX1_leastBehind_47 1 rfl rfl ?_
    refine k_iconst C (v := (1 : Int32)) dX1_leastBehind_48 (by decide) ?_
    refine k_iadd C dX1_leastBehind_49 ?_
    refine k_iload C dX1_leastBehind_50 4 rfl ?_
    obtain ⟨x3, hx3, h⟩ := bindE h
    refine kcallR_i C (wc := (cells_P_cellIn cI cL cZ a_this a_steps a_rest a_counts a_way a_open a_turnable a_turned c_width)) (r := x3) [0] (fun H locs ls hP hD hS hF hz => krunV C (q0 := 0) (ci := 1) (c_P_cellIn l D cI cL cZ X H.size a_this a_steps a_rest a_counts a_way a_open a_turnable a_turned (v1 + (1 : Int32)) v4 c_width x3 hx3) (cwV 2 C.2.2.2.2.1 (gV wq_278 wq_279 wq_280 wq_267 wq_277) rfl rfl rfl (by decide +kernel) ⟨(Nat.le_of_ble_eq_true rfl), (Nat.le_of_ble_eq_true rfl)⟩) rfl rfl (kEs_call hE hS hF) rfl rfl (Nat.le_of_ble_eq_true rfl) dX1_leastBehind_52 hP hD hz) rfl (by decide) ?_
    obtain ⟨x4, hx4, h⟩ := bindE h
    refine k_iald C 1 0 rfl rfl hx4 dX1_leastBehind_55 ?_
    refine k_mmin C (List.mem_cons_of_mem _ wq_269) (List.mem_cons_of_mem _ wq_64) (List.mem_cons_of_mem _ wq_65) (List.mem_cons_of_mem _ wq_66) (Nat.le_of_ble_eq_true rfl) (Nat.le_of_ble_eq_true rfl) dX1_leastBehind_56 ?_
    refine k_istore_n C (lv' := [(3, .int (imin v3 x4)), (0, .ref a_this), (1, .int v1), (2, .int v2), (4, .int v4)]) dX1_leastBehind_59 rfl (by decide) rfl ?_
    refine k_iinc C (v := (v4 + (1 : Int32))) (lv' := [(4, .int (v4 + (1 : Int32))), (3, .int (imin v3 x4)), (0, .ref a_this), (1, .int v1), (2, .int v2)]) dX1_leastBehind_60 4 rfl rfl (by decide) rfl ?_
    refine k_goto C (tgt := 24) dX1_leastBehind_63 (by decide) ?_
    refine k_lv (lv' := [(0, .ref a_this), (1, .int v1), (2, .int v2), (3, .int (imin v3 x4)), (4, .int (v4 + (1 : Int32)))]) [2, 3, 4, 1, 0] rfl ?_
    exact kc _ (Option.some.inj h).symm
set_option maxRecDepth 100000 in
set_option maxHeartbeats 4000000 in
theorem s_P_leastBehind_l24 (C : kC p l e rm_P_leastBehind s m args below meth c D (tyG cI cL cZ) A 5 cX1_leastBehind yX1_leastBehind.cls (Cond.code yX1_leastBehind cX1_leastBehind 5 (some .int) :: WS) (some .int)) {X : kX} (hE : kEs X A s) {a_this : Nat} {a_steps : Nat} {a_rest : Nat} {a_counts : Nat} {a_way : Nat} {a_open : Nat} {a_turnable : Nat} {a_turned : Nat} {v1 : Int32} {v2 : Int32} {v3 : Int32} {v4 : Int32} {c_width : Int32} {c_rest : (Nat → Int32)} {x : Int32} (h : f_P_leastBehind_l24 v1 v2 c_width c_rest v3 v4 = some x)
    (k0 : kW p l e rm_P_leastBehind s m args below meth c D A 5 (cells_P_leastBehind cI cL cZ a_this a_steps a_rest a_counts a_way a_open a_turnable a_turned c_width c_rest) [(3, .int x)] Q 66 []) :
    kW p l e rm_P_leastBehind s m args below meth c D A 5 (cells_P_leastBehind cI cL cZ a_this a_steps a_rest a_counts a_way a_open a_turnable a_turned c_width c_rest) [(0, .ref a_this), (1, .int v1), (2, .int v2), (3, .int v3), (4, .int v4)] Q 24 [] := by
  unfold f_P_leastBehind_l24 at h
  exact iter_W (body := fun s => f_P_leastBehind_b24 v1 v2 c_width c_rest s.1 s.2) (r := x) (T := fun sg => kW p l e rm_P_leastBehind s m args below meth c D A 5 (cells_P_leastBehind cI cL cZ a_this a_steps a_rest a_counts a_way a_open a_turnable a_turned c_width c_rest) [(0, .ref a_this), (1, .int v1), (2, .int v2), (3, .int sg.1), (4, .int sg.2)] Q 24 []) (fun sg y hy hc _ hr => s_P_leastBehind_b24 C hE (v1 := v1) (v2 := v2) (v3 := sg.1) (v4 := sg.2) (c_width := c_width) (c_rest := c_rest) (x := y) hy hc (fun r e => by rw [hr r e]; exact k0)) FUEL (v3, v4) h
set_option maxRecDepth 100000 in
set_option maxHeartbeats 4000000 in
theorem s_P_leastBehind (C : kC p l e rm_P_leastBehind s m args below meth c D (tyG cI cL cZ) A 5 cX1_leastBehind yX1_leastBehind.cls (Cond.code yX1_leastBehind cX1_leastBehind 5 (some .int) :: WS) (some .int)) {X : kX} (hE : kEs X A s) {a_this : Nat} {a_steps : Nat} {a_rest : Nat} {a_counts : Nat} {a_way : Nat} {a_open : Nat} {a_turnable : Nat} {a_turned : Nat} {v1 : Int32} {v2 : Int32} {c_width : Int32} {c_rest : (Nat → Int32)} {x : Int32} (h : f_P_leastBehind v1 v2 c_width c_rest = some x) :
    kW p l e rm_P_leastBehind s m args below meth c D A 5 (cells_P_leastBehind cI cL cZ a_this a_steps a_rest a_counts a_way a_open a_turnable a_turned c_width c_rest) [(0, .ref a_this), (1, .int v1), (2, .int v2)] (MQ below (kQi D A (cells_P_leastBehind cI cL cZ a_this a_steps a_rest a_counts a_way a_open a_turnable a_turned c_width c_rest) x) args s 0 0 A) 0 [] := by
  unfold f_P_leastBehind at h
  refine k_iload_n C dX1_leastBehind_0 1 rfl rfl ?_
  refine k_iconst C (v := (1 : Int32)) dX1_leastBehind_1 (by decide) ?_
  refine k_iadd C dX1_leastBehind_2 ?_
  refine k_aload_n C dX1_leastBehind_3 0 rfl rfl ?_
  obtain ⟨x1, hx1, h⟩ := bindE h
  refine kcallR_i C (wc := (cells_P_length cI cL cZ a_this a_steps a_rest a_counts a_way a_open a_turnable a_turned c_width)) (r := x1) [0] (fun H locs ls hP hD hS hF hz => krunV C (q0 := 0) (ci := 1) (c_P_length l D cI cL cZ H.size a_this a_steps a_rest a_counts a_way a_open a_turnable a_turned c_width x1 hx1) (cwV 0 C.2.2.2.2.1 (gV wq_271 wq_272 wq_273 wq_267 wq_270) rfl rfl rfl (by decide +kernel) ⟨(Nat.le_of_ble_eq_true rfl), (Nat.le_of_ble_eq_true rfl)⟩) rfl rfl kEnv_T rfl rfl (Nat.le_of_ble_eq_true rfl) dX1_leastBehind_4 hP hD hz) rfl (by decide) ?_
  refine k_icmp_lt C (tgt := 12) dX1_leastBehind_7 (by decide) (fun c_7 => ?_) (fun c_7 => ?_)
  · have h := ifT c_7 h
    refine k_ldc C (List.mem_cons_of_mem _ wq_274) dX1_leastBehind_12 ?_
    refine k_istore_n C (lv' := [(3, .int (1000000 : Int32)), (0, .ref a_this), (1, .int v1), (2, .int v2)]) dX1_leastBehind_14 rfl (by decide) rfl ?_
    refine k_iconst C (v := (0 : Int32)) dX1_leastBehind_15 (by decide) ?_
    refine k_iload_n C dX1_leastBehind_16 3 rfl rfl ?_
    refine k_iconst C (v := (1 : Int32)) dX1_leastBehind_17 (by decide) ?_
    refine k_isub C dX1_leastBehind_18 ?_
    refine k_mmax C (List.mem_cons_of_mem _ wq_275) (List.mem_cons_of_mem _ wq_91) (List.mem_cons_of_mem _ wq_65) (List.mem_cons_of_mem _ wq_92) (Nat.le_of_ble_eq_true rfl) (Nat.le_of_ble_eq_true rfl) dX1_leastBehind_19 ?_
    refine k_istore C (lv' := [(4, .int (imax (0 : Int32) (v2 - (1 : Int32)))), (3, .int (1000000 : Int32)), (0, .ref a_this), (1, .int v1), (2, .int v2)]) dX1_leastBehind_22 (by decide) rfl ?_
    obtain ⟨x5, hx5, h⟩ := bindE h
    refine k_lv (lv' := [(0, .ref a_this), (1, .int v1), (2, .int v2), (3, .int (1000000 : Int32)), (4, .int (imax (0 : Int32) (v2 - (1 : Int32))))]) [2, 3, 4, 1, 0] rfl ?_
    refine s_P_leastBehind_l24 C hE hx5 ?_
    refine k_iload_n C dX1_leastBehind_66 0 rfl rfl ?_
    obtain rfl := Option.some.inj h
    exact kret_i C rfl dX1_leastBehind_67
  · have h := ifF c_7 h
    refine k_iconst C (v := (0 : Int32)) dX1_leastBehind_10 (by decide) ?_
    obtain rfl := Option.some.inj h
    exact kret_i C rfl dX1_leastBehind_11
theorem c_P_leastBehind (l : Launch) (D : va_G) (cI : ClassId) (cL : ClassId) (cZ : ClassId) (X : kX) (sz : Nat) (a_this : Nat) (a_steps : Nat) (a_rest : Nat) (a_counts : Nat) (a_way : Nat) (a_open : Nat) (a_turnable : Nat) (a_turned : Nat) (v1 : Int32) (v2 : Int32) (c_width : Int32) (c_rest : (Nat → Int32)) (x : Int32) (h : f_P_leastBehind v1 v2 c_width c_rest = some x) :
    Met l yX1_leastBehind (Cond.code yX1_leastBehind cX1_leastBehind 5 (some .int) :: WS) rm_P_leastBehind (kP D (tyG cI cL cZ) (kEs X (va_A (cells_P_leastBehind cI cL cZ a_this a_steps a_rest a_counts a_way a_open a_turnable a_turned c_width c_rest) sz)) [.ref a_this, .int v1, .int v2] sz (cells_P_leastBehind cI cL cZ a_this a_steps a_rest a_counts a_way a_open a_turnable a_turned c_width c_rest)) (kQi D (va_A (cells_P_leastBehind cI cL cZ a_this a_steps a_rest a_counts a_way a_open a_turnable a_turned c_width c_rest) sz) (cells_P_leastBehind cI cL cZ a_this a_steps a_rest a_counts a_way a_open a_turnable a_turned c_width c_rest) x) 0 0 (va_A (cells_P_leastBehind cI cL cZ a_this a_steps a_rest a_counts a_way a_open a_turnable a_turned c_width c_rest) sz) :=
  kmet (by decide) (Nat.le_of_ble_eq_true rfl) rfl (fun p e s m below meth c C hE => s_P_leastBehind C hE h)
abbrev cells_P_leastAtGate (cI : ClassId) (cL : ClassId) (cZ : ClassId) (a_this : Nat) (a_steps : Nat) (a_rest : Nat) (a_counts : Nat) (a_way : Nat) (a_open : Nat) (a_turnable : Nat) (a_turned : Nat) (c_width : Int32) (c_rest : (Nat → Int32)) : va_W := [(a_this, .inr (1, [.ref a_steps, .ref a_rest, .ref a_counts, .ref a_way, .ref a_open, .ref a_turnable, .ref a_turned, .int c_width])), (a_rest, .inl (cI, 36, .inl c_rest))]
abbrev rm_P_leastAtGate : Room := { frames := 3, cells := 0, slots := 0, locals := 75 }
set_option maxRecDepth 100000 in
set_option maxHeartbeats 4000000 in
theorem s_P_leastAtGate_b9 (C : kC p l e rm_P_leastAtGate s m args below meth c D (tyG cI cL cZ) A 3 cX1_leastAtGate yX1_leastAtGate.cls (Cond.code yX1_leastAtGate cX1_leastAtGate 3 (some .int) :: WS) (some .int)) {X : kX} (hE : kEs X A s) {a_this : Nat} {a_steps : Nat} {a_rest : Nat} {a_counts : Nat} {a_way : Nat} {a_open : Nat} {a_turnable : Nat} {a_turned : Nat} {v1 : Int32} {v2 : Int32} {c_width : Int32} {c_rest : (Nat → Int32)} {x : ((Int32 × Int32) ⊕ Int32)} (h : f_P_leastAtGate_b9 c_width c_rest v1 v2 = some x)
    (kc : ∀ s', x = .inl s' → kW p l e rm_P_leastAtGate s m args below meth c D A 3 (cells_P_leastAtGate cI cL cZ a_this a_steps a_rest a_counts a_way a_open a_turnable a_turned c_width c_rest) [(0, .ref a_this), (1, .int s'.1), (2, .int s'.2)] Q 9 [])
    (k0 : ∀ r, x = .inr r → kW p l e rm_P_leastAtGate s m args below meth c D A 3 (cells_P_leastAtGate cI cL cZ a_this a_steps a_rest a_counts a_way a_open a_turnable a_turned c_width c_rest) [(1, .int r)] Q 39 []) :
    kW p l e rm_P_leastAtGate s m args below meth c D A 3 (cells_P_leastAtGate cI cL cZ a_this a_steps a_rest a_counts a_way a_open a_turnable a_turned c_width c_rest) [(0, .ref a_this), (1, .int v1), (2, .int v2)] Q 9 [] := by
  unfold f_P_leastAtGate_b9 at h
  refine k_iload_n C dX1_leastAtGate_9 2 rfl rfl ?_
  refine k_aload_n C dX1_leastAtGate_10 0 rfl rfl ?_
  obtain ⟨x2, hx2, h⟩ := bindE h
  refine kcallR_i C (wc := (cells_P_length cI cL cZ a_this a_steps a_rest a_counts a_way a_open a_turnable a_turned c_width)) (r := x2) [0] (fun H locs ls hP hD hS hF hz => krunV C (q0 := 0) (ci := 1) (c_P_length l D cI cL cZ H.size a_this a_steps a_rest a_counts a_way a_open a_turnable a_turned c_width x2 hx2) (cwV 0 C.2.2.2.2.1 (gV wq_271 wq_272 wq_273 wq_267 wq_270) rfl rfl rfl (by decide +kernel) ⟨(Nat.le_of_ble_eq_true rfl), (Nat.le_of_ble_eq_true rfl)⟩) rfl rfl kEnv_T rfl rfl (Nat.le_of_ble_eq_true rfl) dX1_leastAtGate_11 hP hD hz) rfl (by decide) ?_
  refine k_icmp_ge C (tgt := 39) dX1_leastAtGate_14 (by decide) (fun c_14 => ?_) (fun c_14 => ?_)
  · have h := ifT c_14 h
    refine k_lv (lv' := [(1, .int v1)]) [1] rfl ?_
    exact k0 _ (Option.some.inj h).symm
  · have h := ifF c_14 h
    refine k_iload_n C dX1_leastAtGate_17 1 rfl rfl ?_
    refine k_aload_n C dX1_leastAtGate_18 0 rfl rfl ?_
    refine k_get C (C0 := RX1) (T := TX1) (N := 8) (fun w h => List.mem_cons_of_mem _ (us_P w h)) 0 rfl rfl 1 (by decide) (List.mem_cons_of_mem _ wq_276) rfl rfl dX1_leastAtGate_19 ?_
    refine k_aload_n C dX1_leastAtGate_22 0 rfl rfl ?_
    refine k_iconst C (v := (0 : Int32)) dX1_leastAtGate_23 (by decide) ?_
    refine k_iload_n C dX1_leastAtGate_24 2 rfl rfl ?_
    obtain ⟨x3, hx3, h⟩ := bindE h
    refine kcallR_i C (wc := (cells_P_cellIn cI cL cZ a_this a_steps a_rest a_counts a_way a_open a_turnable a_turned c_width)) (r := x3) [0] (fun H locs ls hP hD hS hF hz => krunV C (q0 := 0) (ci := 1) (c_P_cellIn l D cI cL cZ X H.size a_this a_steps a_rest a_counts a_way a_open a_turnable a_turned (0 : Int32) v2 c_width x3 hx3) (cwV 2 C.2.2.2.2.1 (gV wq_278 wq_279 wq_280 wq_267 wq_277) rfl rfl rfl (by decide +kernel) ⟨(Nat.le_of_ble_eq_true rfl), (Nat.le_of_ble_eq_true rfl)⟩) rfl rfl (kEs_call hE hS hF) rfl rfl (Nat.le_of_ble_eq_true rfl) dX1_leastAtGate_25 hP hD hz) rfl (by decide) ?_
    obtain ⟨x4, hx4, h⟩ := bindE h
    refine k_iald C 1 0 rfl rfl hx4 dX1_leastAtGate_28 ?_
    refine k_mmin C (List.mem_cons_of_mem _ wq_269) (List.mem_cons_of_mem _ wq_64) (List.mem_cons_of_mem _ wq_65) (List.mem_cons_of_mem _ wq_66) (Nat.le_of_ble_eq_true rfl) (Nat.le_of_ble_eq_true rfl) dX1_leastAtGate_29 ?_
    refine k_istore_n C (lv' := [(1, .int (imin v1 x4)), (0, .ref a_this), (2, .int v2)]) dX1_leastAtGate_32 rfl (by decide) rfl ?_
    refine k_iinc C (v := (v2 + (1 : Int32))) (lv' := [(2, .int (v2 + (1 : Int32))), (1, .int (imin v1 x4)), (0, .ref a_this)]) dX1_leastAtGate_33 2 rfl rfl (by decide) rfl ?_
    refine k_goto C (tgt := 9) dX1_leastAtGate_36 (by decide) ?_
    refine k_lv (lv' := [(0, .ref a_this), (1, .int (imin v1 x4)), (2, .int (v2 + (1 : Int32)))]) [2, 1, 0] rfl ?_
    exact kc _ (Option.some.inj h).symm
set_option maxRecDepth 100000 in
set_option maxHeartbeats 4000000 in
theorem s_P_leastAtGate_l9 (C : kC p l e rm_P_leastAtGate s m args below meth c D (tyG cI cL cZ) A 3 cX1_leastAtGate yX1_leastAtGate.cls (Cond.code yX1_leastAtGate cX1_leastAtGate 3 (some .int) :: WS) (some .int)) {X : kX} (hE : kEs X A s) {a_this : Nat} {a_steps : Nat} {a_rest : Nat} {a_counts : Nat} {a_way : Nat} {a_open : Nat} {a_turnable : Nat} {a_turned : Nat} {v1 : Int32} {v2 : Int32} {c_width : Int32} {c_rest : (Nat → Int32)} {x : Int32} (h : f_P_leastAtGate_l9 c_width c_rest v1 v2 = some x)
    (k0 : kW p l e rm_P_leastAtGate s m args below meth c D A 3 (cells_P_leastAtGate cI cL cZ a_this a_steps a_rest a_counts a_way a_open a_turnable a_turned c_width c_rest) [(1, .int x)] Q 39 []) :
    kW p l e rm_P_leastAtGate s m args below meth c D A 3 (cells_P_leastAtGate cI cL cZ a_this a_steps a_rest a_counts a_way a_open a_turnable a_turned c_width c_rest) [(0, .ref a_this), (1, .int v1), (2, .int v2)] Q 9 [] := by
  unfold f_P_leastAtGate_l9 at h
  exact iter_W (body := fun s => f_P_leastAtGate_b9 c_width c_rest s.1 s.2) (r := x) (T := fun sg => kW p l e rm_P_leastAtGate s m args below meth c D A 3 (cells_P_leastAtGate cI cL cZ a_this a_steps a_rest a_counts a_way a_open a_turnable a_turned c_width c_rest) [(0, .ref a_this), (1, .int sg.1), (2, .int sg.2)] Q 9 []) (fun sg y hy hc _ hr => s_P_leastAtGate_b9 C hE (v1 := sg.1) (v2 := sg.2) (c_width := c_width) (c_rest := c_rest) (x := y) hy hc (fun r e => by rw [hr r e]; exact k0)) FUEL (v1, v2) h
set_option maxRecDepth 100000 in
set_option maxHeartbeats 4000000 in
theorem s_P_leastAtGate (C : kC p l e rm_P_leastAtGate s m args below meth c D (tyG cI cL cZ) A 3 cX1_leastAtGate yX1_leastAtGate.cls (Cond.code yX1_leastAtGate cX1_leastAtGate 3 (some .int) :: WS) (some .int)) {X : kX} (hE : kEs X A s) {a_this : Nat} {a_steps : Nat} {a_rest : Nat} {a_counts : Nat} {a_way : Nat} {a_open : Nat} {a_turnable : Nat} {a_turned : Nat} {c_width : Int32} {c_rest : (Nat → Int32)} {x : Int32} (h : f_P_leastAtGate c_width c_rest = some x) :
    kW p l e rm_P_leastAtGate s m args below meth c D A 3 (cells_P_leastAtGate cI cL cZ a_this a_steps a_rest a_counts a_way a_open a_turnable a_turned c_width c_rest) [(0, .ref a_this)] (MQ below (kQi D A (cells_P_leastAtGate cI cL cZ a_this a_steps a_rest a_counts a_way a_open a_turnable a_turned c_width c_rest) x) args s 0 0 A) 0 [] := by
  unfold f_P_leastAtGate at h
  refine k_aload_n C dX1_leastAtGate_0 0 rfl rfl ?_
  refine k_get C (C0 := RX1) (T := TX1) (N := 8) (fun w h => List.mem_cons_of_mem _ (us_P w h)) 0 rfl rfl 1 (by decide) (List.mem_cons_of_mem _ wq_276) rfl rfl dX1_leastAtGate_1 ?_
  refine k_iconst C (v := (0 : Int32)) dX1_leastAtGate_4 (by decide) ?_
  obtain ⟨x1, hx1, h⟩ := bindE h
  refine k_iald C 1 0 rfl rfl hx1 dX1_leastAtGate_5 ?_
  refine k_istore_n C (lv' := [(1, .int x1), (0, .ref a_this)]) dX1_leastAtGate_6 rfl (by decide) rfl ?_
  refine k_iconst C (v := (1 : Int32)) dX1_leastAtGate_7 (by decide) ?_
  refine k_istore_n C (lv' := [(2, .int (1 : Int32)), (1, .int x1), (0, .ref a_this)]) dX1_leastAtGate_8 rfl (by decide) rfl ?_
  obtain ⟨x5, hx5, h⟩ := bindE h
  refine k_lv (lv' := [(0, .ref a_this), (1, .int x1), (2, .int (1 : Int32))]) [2, 1, 0] rfl ?_
  refine s_P_leastAtGate_l9 C hE hx5 ?_
  refine k_iload_n C dX1_leastAtGate_39 0 rfl rfl ?_
  obtain rfl := Option.some.inj h
  exact kret_i C rfl dX1_leastAtGate_40
theorem c_P_leastAtGate (l : Launch) (D : va_G) (cI : ClassId) (cL : ClassId) (cZ : ClassId) (X : kX) (sz : Nat) (a_this : Nat) (a_steps : Nat) (a_rest : Nat) (a_counts : Nat) (a_way : Nat) (a_open : Nat) (a_turnable : Nat) (a_turned : Nat) (c_width : Int32) (c_rest : (Nat → Int32)) (x : Int32) (h : f_P_leastAtGate c_width c_rest = some x) :
    Met l yX1_leastAtGate (Cond.code yX1_leastAtGate cX1_leastAtGate 3 (some .int) :: WS) rm_P_leastAtGate (kP D (tyG cI cL cZ) (kEs X (va_A (cells_P_leastAtGate cI cL cZ a_this a_steps a_rest a_counts a_way a_open a_turnable a_turned c_width c_rest) sz)) [.ref a_this] sz (cells_P_leastAtGate cI cL cZ a_this a_steps a_rest a_counts a_way a_open a_turnable a_turned c_width c_rest)) (kQi D (va_A (cells_P_leastAtGate cI cL cZ a_this a_steps a_rest a_counts a_way a_open a_turnable a_turned c_width c_rest) sz) (cells_P_leastAtGate cI cL cZ a_this a_steps a_rest a_counts a_way a_open a_turnable a_turned c_width c_rest) x) 0 0 (va_A (cells_P_leastAtGate cI cL cZ a_this a_steps a_rest a_counts a_way a_open a_turnable a_turned c_width c_rest) sz) :=
  kmet (by decide) (Nat.le_of_ble_eq_true rfl) rfl (fun p e s m below meth c C hE => s_P_leastAtGate C hE h)
abbrev cells_P_keepFirst (cI : ClassId) (cL : ClassId) (cZ : ClassId) (a_this : Nat) (a_steps : Nat) (a_rest : Nat) (a_counts : Nat) (a_way : Nat) (a_open : Nat) (a_turnable : Nat) (a_turned : Nat) (c_width : Int32) (c_steps : (Nat → Int32)) (c_rest : (Nat → Int32)) (c_way : (Nat → Int32)) : va_W := [(a_this, .inr (1, [.ref a_steps, .ref a_rest, .ref a_counts, .ref a_way, .ref a_open, .ref a_turnable, .ref a_turned, .int c_width])), (a_steps, .inl (cI, 36, .inl c_steps)), (a_rest, .inl (cI, 36, .inl c_rest)), (a_way, .inl (cI, 6, .inl c_way))]
abbrev rm_P_keepFirst : Room := { frames := 3, cells := 0, slots := 0, locals := 75 }
set_option maxRecDepth 100000 in
set_option maxHeartbeats 4000000 in
theorem s_P_keepFirst_b29 (C : kC p l e rm_P_keepFirst s m args below meth c D (tyG cI cL cZ) A 9 cX1_keepFirst yX1_keepFirst.cls (Cond.code yX1_keepFirst cX1_keepFirst 9 none :: WS) none) {X : kX} (hE : kEs X A s) {a_this : Nat} {a_steps : Nat} {a_rest : Nat} {a_counts : Nat} {a_way : Nat} {a_open : Nat} {a_turnable : Nat} {a_turned : Nat} {v2 : Int32} {v3 : Int32} {v5 : Int32} {v6 : Int32} {v7 : Int32} {c_width : Int32} {c_steps : (Nat → Int32)} {c_rest : (Nat → Int32)} {c_way : (Nat → Int32)} {x : (Int32 ⊕ Int32)} (h : f_P_keepFirst_b29 v3 v5 v6 c_width c_rest v7 = some x)
    (kc : ∀ s', x = .inl s' → kW p l e rm_P_keepFirst s m args below meth c D A 9 (cells_P_keepFirst cI cL cZ a_this a_steps a_rest a_counts a_way a_open a_turnable a_turned c_width c_steps c_rest c_way) [(0, .ref a_this), (2, .int v2), (3, .int v3), (5, .int v5), (6, .int v6), (7, .int s')] Q 29 [])
    (k0 : ∀ r, x = .inr r → kW p l e rm_P_keepFirst s m args below meth c D A 9 (cells_P_keepFirst cI cL cZ a_this a_steps a_rest a_counts a_way a_open a_turnable a_turned c_width c_steps c_rest c_way) [(0, .ref a_this), (2, .int v2), (3, .int v3), (6, .int v6), (7, .int r)] Q 59 []) :
    kW p l e rm_P_keepFirst s m args below meth c D A 9 (cells_P_keepFirst cI cL cZ a_this a_steps a_rest a_counts a_way a_open a_turnable a_turned c_width c_steps c_rest c_way) [(0, .ref a_this), (2, .int v2), (3, .int v3), (5, .int v5), (6, .int v6), (7, .int v7)] Q 29 [] := by
  unfold f_P_keepFirst_b29 at h
  refine k_iload C dX1_keepFirst_29 5 rfl ?_
  refine k_iload C dX1_keepFirst_31 3 rfl ?_
  refine k_icmp_ge C (tgt := 59) dX1_keepFirst_33 (by decide) (fun c_33 => ?_) (fun c_33 => ?_)
  · have h := ifT c_33 h
    refine k_lv (lv' := [(0, .ref a_this), (2, .int v2), (3, .int v3), (6, .int v6), (7, .int v7)]) [0, 1, 2, 4, 5] rfl ?_
    exact k0 _ (Option.some.inj h).symm
  · have h := ifF c_33 h
    refine k_aload_n C dX1_keepFirst_36 0 rfl rfl ?_
    refine k_get C (C0 := RX1) (T := TX1) (N := 8) (fun w h => List.mem_cons_of_mem _ (us_P w h)) 0 rfl rfl 1 (by decide) (List.mem_cons_of_mem _ wq_276) rfl rfl dX1_keepFirst_37 ?_
    refine k_aload_n C dX1_keepFirst_40 0 rfl rfl ?_
    refine k_iload C dX1_keepFirst_41 4 rfl ?_
    refine k_iload C dX1_keepFirst_43 5 rfl ?_
    obtain ⟨x3, hx3, h⟩ := bindE h
    refine kcallR_i C (wc := (cells_P_cellIn cI cL cZ a_this a_steps a_rest a_counts a_way a_open a_turnable a_turned c_width)) (r := x3) [0] (fun H locs ls hP hD hS hF hz => krunV C (q0 := 0) (ci := 1) (c_P_cellIn l D cI cL cZ X H.size a_this a_steps a_rest a_counts a_way a_open a_turnable a_turned v6 v7 c_width x3 hx3) (cwV 2 C.2.2.2.2.1 (gV wq_278 wq_279 wq_280 wq_267 wq_277) rfl rfl rfl (by decide +kernel) ⟨(Nat.le_of_ble_eq_true rfl), (Nat.le_of_ble_eq_true rfl)⟩) rfl rfl (kEs_call hE hS hF) rfl rfl (Nat.le_of_ble_eq_true rfl) dX1_keepFirst_45 hP hD hz) rfl (by decide) ?_
    obtain ⟨x4, hx4, h⟩ := bindE h
    refine k_iald C 2 0 rfl rfl hx4 dX1_keepFirst_48 ?_
    refine k_iload_n C dX1_keepFirst_49 2 rfl rfl ?_
    refine k_icmp_le C (tgt := 59) dX1_keepFirst_50 (by decide) (fun c_50 => ?_) (fun c_50 => ?_)
    · have h := ifT c_50 h
      refine k_lv (lv' := [(0, .ref a_this), (2, .int v2), (3, .int v3), (6, .int v6), (7, .int v7)]) [0, 1, 2, 4, 5] rfl ?_
      exact k0 _ (Option.some.inj h).symm
    · have h := ifF c_50 h
      refine k_iinc C (v := (v7 + (1 : Int32))) (lv' := [(7, .int (v7 + (1 : Int32))), (0, .ref a_this), (2, .int v2), (3, .int v3), (5, .int v5), (6, .int v6)]) dX1_keepFirst_53 5 rfl rfl (by decide) rfl ?_
      refine k_goto C (tgt := 29) dX1_keepFirst_56 (by decide) ?_
      refine k_lv (lv' := [(0, .ref a_this), (2, .int v2), (3, .int v3), (5, .int v5), (6, .int v6), (7, .int (v7 + (1 : Int32)))]) [1, 2, 3, 4, 5, 0] rfl ?_
      exact kc _ (Option.some.inj h).symm
set_option maxRecDepth 100000 in
set_option maxHeartbeats 4000000 in
theorem s_P_keepFirst_l29 (C : kC p l e rm_P_keepFirst s m args below meth c D (tyG cI cL cZ) A 9 cX1_keepFirst yX1_keepFirst.cls (Cond.code yX1_keepFirst cX1_keepFirst 9 none :: WS) none) {X : kX} (hE : kEs X A s) {a_this : Nat} {a_steps : Nat} {a_rest : Nat} {a_counts : Nat} {a_way : Nat} {a_open : Nat} {a_turnable : Nat} {a_turned : Nat} {v2 : Int32} {v3 : Int32} {v5 : Int32} {v6 : Int32} {v7 : Int32} {c_width : Int32} {c_steps : (Nat → Int32)} {c_rest : (Nat → Int32)} {c_way : (Nat → Int32)} {x : Int32} (h : f_P_keepFirst_l29 v3 v5 v6 c_width c_rest v7 = some x)
    (k0 : kW p l e rm_P_keepFirst s m args below meth c D A 9 (cells_P_keepFirst cI cL cZ a_this a_steps a_rest a_counts a_way a_open a_turnable a_turned c_width c_steps c_rest c_way) [(0, .ref a_this), (2, .int v2), (3, .int v3), (6, .int v6), (7, .int x)] Q 59 []) :
    kW p l e rm_P_keepFirst s m args below meth c D A 9 (cells_P_keepFirst cI cL cZ a_this a_steps a_rest a_counts a_way a_open a_turnable a_turned c_width c_steps c_rest c_way) [(0, .ref a_this), (2, .int v2), (3, .int v3), (5, .int v5), (6, .int v6), (7, .int v7)] Q 29 [] := by
  unfold f_P_keepFirst_l29 at h
  exact iter_W (body := fun s => f_P_keepFirst_b29 v3 v5 v6 c_width c_rest s) (r := x) (T := fun sg => kW p l e rm_P_keepFirst s m args below meth c D A 9 (cells_P_keepFirst cI cL cZ a_this a_steps a_rest a_counts a_way a_open a_turnable a_turned c_width c_steps c_rest c_way) [(0, .ref a_this), (2, .int v2), (3, .int v3), (5, .int v5), (6, .int v6), (7, .int sg)] Q 29 []) (fun sg y hy hc _ hr => s_P_keepFirst_b29 C hE (v2 := v2) (v3 := v3) (v5 := v5) (v6 := v6) (v7 := sg) (c_width := c_width) (c_steps := c_steps) (c_rest := c_rest) (c_way := c_way) (x := y) hy hc (fun r e => by rw [hr r e]; exact k0)) FUEL v7 h
set_option maxRecDepth 100000 in
set_option maxHeartbeats 4000000 in
theorem s_P_keepFirst_j94 (C : kC p l e rm_P_keepFirst s m args below meth c D (tyG cI cL cZ) A 9 cX1_keepFirst yX1_keepFirst.cls (Cond.code yX1_keepFirst cX1_keepFirst 9 none :: WS) none) {X : kX} (hE : kEs X A s) {a_this : Nat} {a_steps : Nat} {a_rest : Nat} {a_counts : Nat} {a_way : Nat} {a_open : Nat} {a_turnable : Nat} {a_turned : Nat} {v2 : Int32} {v6 : Int32} {v7 : Int32} {t0 : Int32} {t1 : Int32} {c_width : Int32} {c_steps : (Nat → Int32)} {c_rest : (Nat → Int32)} {c_way : (Nat → Int32)} {x : ((Int32 × Int32 × Int32 × Int32 × (Nat → Int32)) ⊕ (Nat → Int32))} (h : f_P_keepFirst_j94 v6 v7 t0 t1 c_width c_way = some x)
    (kc : ∀ s', x = .inl s' → kW p l e rm_P_keepFirst s m args below meth c D A 9 (cells_P_keepFirst cI cL cZ a_this a_steps a_rest a_counts a_way a_open a_turnable a_turned c_width c_steps c_rest s'.2.2.2.2) [(0, .ref a_this), (2, .int v2), (3, .int s'.1), (4, .int s'.2.1), (5, .int s'.2.2.1), (6, .int s'.2.2.2.1)] Q 16 [])
    (k0 : ∀ r, x = .inr r → kW p l e rm_P_keepFirst s m args below meth c D A 9 (cells_P_keepFirst cI cL cZ a_this a_steps a_rest a_counts a_way a_open a_turnable a_turned c_width c_steps c_rest r) [] Q 127 []) :
    kW p l e rm_P_keepFirst s m args below meth c D A 9 (cells_P_keepFirst cI cL cZ a_this a_steps a_rest a_counts a_way a_open a_turnable a_turned c_width c_steps c_rest c_way) [(0, .ref a_this), (2, .int v2), (6, .int v6), (7, .int v7)] Q 94 [.int t1, .int t0] := by
  unfold f_P_keepFirst_j94 at h
  refine k_isub C dX1_keepFirst_94 ?_
  refine k_istore_n C (lv' := [(3, .int (t0 - t1)), (0, .ref a_this), (2, .int v2), (6, .int v6), (7, .int v7)]) dX1_keepFirst_95 rfl (by decide) rfl ?_
  refine k_iconst C (v := (0 : Int32)) dX1_keepFirst_96 (by decide) ?_
  refine k_iload C dX1_keepFirst_97 4 rfl ?_
  refine k_iconst C (v := (1 : Int32)) dX1_keepFirst_99 (by decide) ?_
  refine k_isub C dX1_keepFirst_100 ?_
  refine k_mmax C (List.mem_cons_of_mem _ wq_275) (List.mem_cons_of_mem _ wq_91) (List.mem_cons_of_mem _ wq_65) (List.mem_cons_of_mem _ wq_92) (Nat.le_of_ble_eq_true rfl) (Nat.le_of_ble_eq_true rfl) dX1_keepFirst_101 ?_
  refine k_istore C (lv' := [(4, .int (imax (0 : Int32) (v7 - (1 : Int32)))), (3, .int (t0 - t1)), (0, .ref a_this), (2, .int v2), (6, .int v6), (7, .int v7)]) dX1_keepFirst_104 (by decide) rfl ?_
  refine k_aload_n C dX1_keepFirst_106 2 rfl rfl ?_
  obtain ⟨x8, hx8, h⟩ := bindE h
  refine kcallR_i C (wc := (cells_P_length cI cL cZ a_this a_steps a_rest a_counts a_way a_open a_turnable a_turned c_width)) (r := x8) [0] (fun H locs ls hP hD hS hF hz => krunV C (q0 := 0) (ci := 1) (c_P_length l D cI cL cZ H.size a_this a_steps a_rest a_counts a_way a_open a_turnable a_turned c_width x8 hx8) (cwV 0 C.2.2.2.2.1 (gV wq_271 wq_272 wq_273 wq_267 wq_270) rfl rfl rfl (by decide +kernel) ⟨(Nat.le_of_ble_eq_true rfl), (Nat.le_of_ble_eq_true rfl)⟩) rfl rfl kEnv_T rfl rfl (Nat.le_of_ble_eq_true rfl) dX1_keepFirst_107 hP hD hz) rfl (by decide) ?_
  refine k_iconst C (v := (1 : Int32)) dX1_keepFirst_110 (by decide) ?_
  refine k_isub C dX1_keepFirst_111 ?_
  refine k_iload C dX1_keepFirst_112 5 rfl ?_
  refine k_iconst C (v := (1 : Int32)) dX1_keepFirst_114 (by decide) ?_
  refine k_iadd C dX1_keepFirst_115 ?_
  refine k_mmin C (List.mem_cons_of_mem _ wq_269) (List.mem_cons_of_mem _ wq_64) (List.mem_cons_of_mem _ wq_65) (List.mem_cons_of_mem _ wq_66) (Nat.le_of_ble_eq_true rfl) (Nat.le_of_ble_eq_true rfl) dX1_keepFirst_116 ?_
  refine k_istore C (lv' := [(5, .int (imin (x8 - (1 : Int32)) (v7 + (1 : Int32)))), (4, .int (imax (0 : Int32) (v7 - (1 : Int32)))), (3, .int (t0 - t1)), (0, .ref a_this), (2, .int v2), (6, .int v6), (7, .int v7)]) dX1_keepFirst_119 (by decide) rfl ?_
  refine k_iinc C (v := (v6 + (1 : Int32))) (lv' := [(6, .int (v6 + (1 : Int32))), (5, .int (imin (x8 - (1 : Int32)) (v7 + (1 : Int32)))), (4, .int (imax (0 : Int32) (v7 - (1 : Int32)))), (3, .int (t0 - t1)), (0, .ref a_this), (2, .int v2), (7, .int v7)]) dX1_keepFirst_121 5 rfl rfl (by decide) rfl ?_
  refine k_goto C (tgt := 16) dX1_keepFirst_124 (by decide) ?_
  refine k_lv (lv' := [(0, .ref a_this), (2, .int v2), (3, .int (t0 - t1)), (4, .int (imax (0 : Int32) (v7 - (1 : Int32)))), (5, .int (imin (x8 - (1 : Int32)) (v7 + (1 : Int32)))), (6, .int (v6 + (1 : Int32)))]) [4, 5, 3, 2, 1, 0] rfl ?_
  exact kc _ (Option.some.inj h).symm
set_option maxRecDepth 100000 in
set_option maxHeartbeats 4000000 in
theorem s_P_keepFirst_b16 (C : kC p l e rm_P_keepFirst s m args below meth c D (tyG cI cL cZ) A 9 cX1_keepFirst yX1_keepFirst.cls (Cond.code yX1_keepFirst cX1_keepFirst 9 none :: WS) none) {X : kX} (hE : kEs X A s) {a_this : Nat} {a_steps : Nat} {a_rest : Nat} {a_counts : Nat} {a_way : Nat} {a_open : Nat} {a_turnable : Nat} {a_turned : Nat} {v2 : Int32} {v3 : Int32} {v4 : Int32} {v5 : Int32} {v6 : Int32} {c_width : Int32} {c_steps : (Nat → Int32)} {c_rest : (Nat → Int32)} {c_way : (Nat → Int32)} {x : ((Int32 × Int32 × Int32 × Int32 × (Nat → Int32)) ⊕ (Nat → Int32))} (h : f_P_keepFirst_b16 v2 c_width c_steps c_rest v3 v4 v5 v6 c_way = some x)
    (kc : ∀ s', x = .inl s' → kW p l e rm_P_keepFirst s m args below meth c D A 9 (cells_P_keepFirst cI cL cZ a_this a_steps a_rest a_counts a_way a_open a_turnable a_turned c_width c_steps c_rest s'.2.2.2.2) [(0, .ref a_this), (2, .int v2), (3, .int s'.1), (4, .int s'.2.1), (5, .int s'.2.2.1), (6, .int s'.2.2.2.1)] Q 16 [])
    (k0 : ∀ r, x = .inr r → kW p l e rm_P_keepFirst s m args below meth c D A 9 (cells_P_keepFirst cI cL cZ a_this a_steps a_rest a_counts a_way a_open a_turnable a_turned c_width c_steps c_rest r) [] Q 127 []) :
    kW p l e rm_P_keepFirst s m args below meth c D A 9 (cells_P_keepFirst cI cL cZ a_this a_steps a_rest a_counts a_way a_open a_turnable a_turned c_width c_steps c_rest c_way) [(0, .ref a_this), (2, .int v2), (3, .int v3), (4, .int v4), (5, .int v5), (6, .int v6)] Q 16 [] := by
  unfold f_P_keepFirst_b16 at h
  refine k_iload C dX1_keepFirst_16 5 rfl ?_
  refine k_aload_n C dX1_keepFirst_18 0 rfl rfl ?_
  obtain ⟨x2, hx2, h⟩ := bindE h
  refine kcallR_i C (wc := (cells_P_length cI cL cZ a_this a_steps a_rest a_counts a_way a_open a_turnable a_turned c_width)) (r := x2) [0] (fun H locs ls hP hD hS hF hz => krunV C (q0 := 0) (ci := 1) (c_P_length l D cI cL cZ H.size a_this a_steps a_rest a_counts a_way a_open a_turnable a_turned c_width x2 hx2) (cwV 0 C.2.2.2.2.1 (gV wq_271 wq_272 wq_273 wq_267 wq_270) rfl rfl rfl (by decide +kernel) ⟨(Nat.le_of_ble_eq_true rfl), (Nat.le_of_ble_eq_true rfl)⟩) rfl rfl kEnv_T rfl rfl (Nat.le_of_ble_eq_true rfl) dX1_keepFirst_19 hP hD hz) rfl (by decide) ?_
  refine k_icmp_ge C (tgt := 127) dX1_keepFirst_22 (by decide) (fun c_22 => ?_) (fun c_22 => ?_)
  · have h := ifT c_22 h
    refine k_lv (lv' := []) [] rfl ?_
    exact k0 _ (Option.some.inj h).symm
  · have h := ifF c_22 h
    refine k_iload C dX1_keepFirst_25 3 rfl ?_
    refine k_istore C (lv' := [(7, .int v4), (0, .ref a_this), (2, .int v2), (3, .int v3), (4, .int v4), (5, .int v5), (6, .int v6)]) dX1_keepFirst_27 (by decide) rfl ?_
    obtain ⟨x5, hx5, h⟩ := bindE h
    refine k_lv (lv' := [(0, .ref a_this), (2, .int v2), (3, .int v3), (5, .int v5), (6, .int v6), (7, .int v4)]) [1, 2, 3, 5, 6, 0] rfl ?_
    refine s_P_keepFirst_l29 C hE hx5 ?_
    refine k_aload_n C dX1_keepFirst_59 0 rfl rfl ?_
    refine k_iload C dX1_keepFirst_60 3 rfl ?_
    refine k_iload C dX1_keepFirst_62 4 rfl ?_
    obtain ⟨x6, hx6, h⟩ := bindE h
    refine kcallR_i C (wc := (cells_P_cellIn cI cL cZ a_this a_steps a_rest a_counts a_way a_open a_turnable a_turned c_width)) (r := x6) [0] (fun H locs ls hP hD hS hF hz => krunV C (q0 := 0) (ci := 1) (c_P_cellIn l D cI cL cZ X H.size a_this a_steps a_rest a_counts a_way a_open a_turnable a_turned v6 x5 c_width x6 hx6) (cwV 2 C.2.2.2.2.1 (gV wq_278 wq_279 wq_280 wq_267 wq_277) rfl rfl rfl (by decide +kernel) ⟨(Nat.le_of_ble_eq_true rfl), (Nat.le_of_ble_eq_true rfl)⟩) rfl rfl (kEs_call hE hS hF) rfl rfl (Nat.le_of_ble_eq_true rfl) dX1_keepFirst_64 hP hD hz) rfl (by decide) ?_
    refine k_istore C (lv' := [(8, .int x6), (0, .ref a_this), (2, .int v2), (3, .int v3), (6, .int v6), (7, .int x5)]) dX1_keepFirst_67 (by decide) rfl ?_
    refine k_aload_n C dX1_keepFirst_69 1 rfl rfl ?_
    refine k_get C (C0 := RX1) (T := TX1) (N := 8) (fun w h => List.mem_cons_of_mem _ (us_P w h)) 0 rfl rfl 3 (by decide) (List.mem_cons_of_mem _ wq_281) rfl rfl dX1_keepFirst_70 ?_
    refine k_iload C dX1_keepFirst_73 4 rfl ?_
    refine k_iload C dX1_keepFirst_75 0 rfl ?_
    obtain ⟨x7, hx7, h⟩ := bindE h
    refine k_iast C 3 0 (ws' := (cells_P_keepFirst cI cL cZ a_this a_steps a_rest a_counts a_way a_open a_turnable a_turned c_width c_steps c_rest x7)) rfl rfl hx7 rfl dX1_keepFirst_77 ?_
    refine k_iload_n C dX1_keepFirst_78 3 rfl rfl ?_
    refine k_iload_n C dX1_keepFirst_79 2 rfl rfl ?_
    refine k_if_eq C (tgt := 93) dX1_keepFirst_80 (by decide) (fun c_80 => ?_) (fun c_80 => ?_)
    · have h := ifT c_80 h
      refine k_iconst C (v := (0 : Int32)) dX1_keepFirst_93 (by decide) ?_
      refine k_lv (lv' := [(0, .ref a_this), (2, .int v2), (6, .int v6), (7, .int x5)]) [1, 2, 4, 5] rfl ?_
      exact s_P_keepFirst_j94 C hE h kc k0
    · have h := ifF c_80 h
      refine k_aload_n C dX1_keepFirst_83 1 rfl rfl ?_
      refine k_get C (C0 := RX1) (T := TX1) (N := 8) (fun w h => List.mem_cons_of_mem _ (us_P w h)) 0 rfl rfl 0 (by decide) (List.mem_cons_of_mem _ wq_256) rfl rfl dX1_keepFirst_84 ?_
      refine k_iload C dX1_keepFirst_87 0 rfl ?_
      obtain ⟨x9, hx9, h⟩ := bindE h
      refine k_iald C 1 0 rfl rfl hx9 dX1_keepFirst_89 ?_
      refine k_goto C (tgt := 94) dX1_keepFirst_90 (by decide) ?_
      refine k_lv (lv' := [(0, .ref a_this), (2, .int v2), (6, .int v6), (7, .int x5)]) [1, 2, 4, 5] rfl ?_
      exact s_P_keepFirst_j94 C hE h kc k0
set_option maxRecDepth 100000 in
set_option maxHeartbeats 4000000 in
theorem s_P_keepFirst_l16 (C : kC p l e rm_P_keepFirst s m args below meth c D (tyG cI cL cZ) A 9 cX1_keepFirst yX1_keepFirst.cls (Cond.code yX1_keepFirst cX1_keepFirst 9 none :: WS) none) {X : kX} (hE : kEs X A s) {a_this : Nat} {a_steps : Nat} {a_rest : Nat} {a_counts : Nat} {a_way : Nat} {a_open : Nat} {a_turnable : Nat} {a_turned : Nat} {v2 : Int32} {v3 : Int32} {v4 : Int32} {v5 : Int32} {v6 : Int32} {c_width : Int32} {c_steps : (Nat → Int32)} {c_rest : (Nat → Int32)} {c_way : (Nat → Int32)} {x : (Nat → Int32)} (h : f_P_keepFirst_l16 v2 c_width c_steps c_rest v3 v4 v5 v6 c_way = some x)
    (k0 : kW p l e rm_P_keepFirst s m args below meth c D A 9 (cells_P_keepFirst cI cL cZ a_this a_steps a_rest a_counts a_way a_open a_turnable a_turned c_width c_steps c_rest x) [] Q 127 []) :
    kW p l e rm_P_keepFirst s m args below meth c D A 9 (cells_P_keepFirst cI cL cZ a_this a_steps a_rest a_counts a_way a_open a_turnable a_turned c_width c_steps c_rest c_way) [(0, .ref a_this), (2, .int v2), (3, .int v3), (4, .int v4), (5, .int v5), (6, .int v6)] Q 16 [] := by
  unfold f_P_keepFirst_l16 at h
  exact iter_W (body := fun s => f_P_keepFirst_b16 v2 c_width c_steps c_rest s.1 s.2.1 s.2.2.1 s.2.2.2.1 s.2.2.2.2) (r := x) (T := fun sg => kW p l e rm_P_keepFirst s m args below meth c D A 9 (cells_P_keepFirst cI cL cZ a_this a_steps a_rest a_counts a_way a_open a_turnable a_turned c_width c_steps c_rest sg.2.2.2.2) [(0, .ref a_this), (2, .int v2), (3, .int sg.1), (4, .int sg.2.1), (5, .int sg.2.2.1), (6, .int sg.2.2.2.1)] Q 16 []) (fun sg y hy hc _ hr => s_P_keepFirst_b16 C hE (v2 := v2) (v3 := sg.1) (v4 := sg.2.1) (v5 := sg.2.2.1) (v6 := sg.2.2.2.1) (c_width := c_width) (c_steps := c_steps) (c_rest := c_rest) (c_way := sg.2.2.2.2) (x := y) hy hc (fun r e => by rw [hr r e]; exact k0)) FUEL (v3, v4, v5, v6, c_way) h
set_option maxRecDepth 100000 in
set_option maxHeartbeats 4000000 in
theorem s_P_keepFirst (C : kC p l e rm_P_keepFirst s m args below meth c D (tyG cI cL cZ) A 9 cX1_keepFirst yX1_keepFirst.cls (Cond.code yX1_keepFirst cX1_keepFirst 9 none :: WS) none) {X : kX} (hE : kEs X A s) {a_this : Nat} {a_steps : Nat} {a_rest : Nat} {a_counts : Nat} {a_way : Nat} {a_open : Nat} {a_turnable : Nat} {a_turned : Nat} {v1 : Int32} {v2 : Int32} {c_width : Int32} {c_steps : (Nat → Int32)} {c_rest : (Nat → Int32)} {c_way : (Nat → Int32)} {x : (Nat → Int32)} (h : f_P_keepFirst v1 v2 c_width c_steps c_rest c_way = some x) :
    kW p l e rm_P_keepFirst s m args below meth c D A 9 (cells_P_keepFirst cI cL cZ a_this a_steps a_rest a_counts a_way a_open a_turnable a_turned c_width c_steps c_rest c_way) [(0, .ref a_this), (1, .int v1), (2, .int v2)] (MQ below (kQv D A (cells_P_keepFirst cI cL cZ a_this a_steps a_rest a_counts a_way a_open a_turnable a_turned c_width c_steps c_rest x)) args s 0 0 A) 0 [] := by
  unfold f_P_keepFirst at h
  refine k_iload_n C dX1_keepFirst_0 1 rfl rfl ?_
  refine k_istore_n C (lv' := [(3, .int v1), (0, .ref a_this), (1, .int v1), (2, .int v2)]) dX1_keepFirst_1 rfl (by decide) rfl ?_
  refine k_iconst C (v := (0 : Int32)) dX1_keepFirst_2 (by decide) ?_
  refine k_istore C (lv' := [(4, .int (0 : Int32)), (3, .int v1), (0, .ref a_this), (1, .int v1), (2, .int v2)]) dX1_keepFirst_3 (by decide) rfl ?_
  refine k_aload_n C dX1_keepFirst_5 2 rfl rfl ?_
  obtain ⟨x1, hx1, h⟩ := bindE h
  refine kcallR_i C (wc := (cells_P_length cI cL cZ a_this a_steps a_rest a_counts a_way a_open a_turnable a_turned c_width)) (r := x1) [0] (fun H locs ls hP hD hS hF hz => krunV C (q0 := 0) (ci := 1) (c_P_length l D cI cL cZ H.size a_this a_steps a_rest a_counts a_way a_open a_turnable a_turned c_width x1 hx1) (cwV 0 C.2.2.2.2.1 (gV wq_271 wq_272 wq_273 wq_267 wq_270) rfl rfl rfl (by decide +kernel) ⟨(Nat.le_of_ble_eq_true rfl), (Nat.le_of_ble_eq_true rfl)⟩) rfl rfl kEnv_T rfl rfl (Nat.le_of_ble_eq_true rfl) dX1_keepFirst_6 hP hD hz) rfl (by decide) ?_
  refine k_iconst C (v := (1 : Int32)) dX1_keepFirst_9 (by decide) ?_
  refine k_isub C dX1_keepFirst_10 ?_
  refine k_istore C (lv' := [(5, .int (x1 - (1 : Int32))), (4, .int (0 : Int32)), (3, .int v1), (0, .ref a_this), (1, .int v1), (2, .int v2)]) dX1_keepFirst_11 (by decide) rfl ?_
  refine k_iconst C (v := (0 : Int32)) dX1_keepFirst_13 (by decide) ?_
  refine k_istore C (lv' := [(6, .int (0 : Int32)), (5, .int (x1 - (1 : Int32))), (4, .int (0 : Int32)), (3, .int v1), (0, .ref a_this), (1, .int v1), (2, .int v2)]) dX1_keepFirst_14 (by decide) rfl ?_
  obtain ⟨x10, hx10, h⟩ := bindE h
  refine k_lv (lv' := [(0, .ref a_this), (2, .int v2), (3, .int v1), (4, .int (0 : Int32)), (5, .int (x1 - (1 : Int32))), (6, .int (0 : Int32))]) [4, 6, 3, 2, 1, 0] rfl ?_
  refine s_P_keepFirst_l16 C hE hx10 ?_
  obtain rfl := Option.some.inj h
  exact kret_v C rfl dX1_keepFirst_127
theorem c_P_keepFirst (l : Launch) (D : va_G) (cI : ClassId) (cL : ClassId) (cZ : ClassId) (X : kX) (sz : Nat) (a_this : Nat) (a_steps : Nat) (a_rest : Nat) (a_counts : Nat) (a_way : Nat) (a_open : Nat) (a_turnable : Nat) (a_turned : Nat) (v1 : Int32) (v2 : Int32) (c_width : Int32) (c_steps : (Nat → Int32)) (c_rest : (Nat → Int32)) (c_way : (Nat → Int32)) (x : (Nat → Int32)) (h : f_P_keepFirst v1 v2 c_width c_steps c_rest c_way = some x) :
    Met l yX1_keepFirst (Cond.code yX1_keepFirst cX1_keepFirst 9 none :: WS) rm_P_keepFirst (kP D (tyG cI cL cZ) (kEs X (va_A (cells_P_keepFirst cI cL cZ a_this a_steps a_rest a_counts a_way a_open a_turnable a_turned c_width c_steps c_rest c_way) sz)) [.ref a_this, .int v1, .int v2] sz (cells_P_keepFirst cI cL cZ a_this a_steps a_rest a_counts a_way a_open a_turnable a_turned c_width c_steps c_rest c_way)) (kQv D (va_A (cells_P_keepFirst cI cL cZ a_this a_steps a_rest a_counts a_way a_open a_turnable a_turned c_width c_steps c_rest c_way) sz) (cells_P_keepFirst cI cL cZ a_this a_steps a_rest a_counts a_way a_open a_turnable a_turned c_width c_steps c_rest x)) 0 0 (va_A (cells_P_keepFirst cI cL cZ a_this a_steps a_rest a_counts a_way a_open a_turnable a_turned c_width c_steps c_rest c_way) sz) :=
  kmet (by decide) (Nat.le_of_ble_eq_true rfl) rfl (fun p e s m below meth c C hE => s_P_keepFirst C hE h)
abbrev cells_P_leastTogether (cI : ClassId) (cL : ClassId) (cZ : ClassId) (a_this : Nat) (a_steps : Nat) (a_rest : Nat) (a_counts : Nat) (a_way : Nat) (a_open : Nat) (a_turnable : Nat) (a_turned : Nat) (c_width : Int32) (c_steps : (Nat → Int32)) (c_rest : (Nat → Int32)) (c_way : (Nat → Int32)) : va_W := [(a_this, .inr (1, [.ref a_steps, .ref a_rest, .ref a_counts, .ref a_way, .ref a_open, .ref a_turnable, .ref a_turned, .int c_width])), (a_steps, .inl (cI, 36, .inl c_steps)), (a_rest, .inl (cI, 36, .inl c_rest)), (a_way, .inl (cI, 6, .inl c_way))]
abbrev rm_P_leastTogether : Room := { frames := 4, cells := 0, slots := 0, locals := 103 }
set_option maxRecDepth 100000 in
set_option maxHeartbeats 4000000 in
theorem s_P_leastTogether_b13 (C : kC p l e rm_P_leastTogether s m args below meth c D (tyG cI cL cZ) A 4 cX1_leastTogether yX1_leastTogether.cls (Cond.code yX1_leastTogether cX1_leastTogether 4 (some .int) :: WS) (some .int)) {X : kX} (hE : kEs X A s) {a_this : Nat} {a_steps : Nat} {a_rest : Nat} {a_counts : Nat} {a_way : Nat} {a_open : Nat} {a_turnable : Nat} {a_turned : Nat} {v1 : Int32} {v2 : Int32} {c_width : Int32} {c_steps : (Nat → Int32)} {c_rest : (Nat → Int32)} {c_way : (Nat → Int32)} {x : ((Int32 × (Nat → Int32)) ⊕ (Nat → Int32))} (h : f_P_leastTogether_b13 v1 c_width c_steps v2 c_rest = some x)
    (kc : ∀ s', x = .inl s' → kW p l e rm_P_leastTogether s m args below meth c D A 4 (cells_P_leastTogether cI cL cZ a_this a_steps a_rest a_counts a_way a_open a_turnable a_turned c_width c_steps s'.2 c_way) [(0, .ref a_this), (1, .int v1), (2, .int s'.1)] Q 13 [])
    (k0 : ∀ r, x = .inr r → kW p l e rm_P_leastTogether s m args below meth c D A 4 (cells_P_leastTogether cI cL cZ a_this a_steps a_rest a_counts a_way a_open a_turnable a_turned c_width c_steps r c_way) [(0, .ref a_this), (1, .int v1)] Q 53 []) :
    kW p l e rm_P_leastTogether s m args below meth c D A 4 (cells_P_leastTogether cI cL cZ a_this a_steps a_rest a_counts a_way a_open a_turnable a_turned c_width c_steps c_rest c_way) [(0, .ref a_this), (1, .int v1), (2, .int v2)] Q 13 [] := by
  unfold f_P_leastTogether_b13 at h
  refine k_iload_n C dX1_leastTogether_13 2 rfl rfl ?_
  refine k_aload_n C dX1_leastTogether_14 0 rfl rfl ?_
  obtain ⟨x2, hx2, h⟩ := bindE h
  refine kcallR_i C (wc := (cells_P_length cI cL cZ a_this a_steps a_rest a_counts a_way a_open a_turnable a_turned c_width)) (r := x2) [0] (fun H locs ls hP hD hS hF hz => krunV C (q0 := 0) (ci := 1) (c_P_length l D cI cL cZ H.size a_this a_steps a_rest a_counts a_way a_open a_turnable a_turned c_width x2 hx2) (cwV 0 C.2.2.2.2.1 (gV wq_271 wq_272 wq_273 wq_267 wq_270) rfl rfl rfl (by decide +kernel) ⟨(Nat.le_of_ble_eq_true rfl), (Nat.le_of_ble_eq_true rfl)⟩) rfl rfl kEnv_T rfl rfl (Nat.le_of_ble_eq_true rfl) dX1_leastTogether_15 hP hD hz) rfl (by decide) ?_
  refine k_icmp_ge C (tgt := 53) dX1_leastTogether_18 (by decide) (fun c_18 => ?_) (fun c_18 => ?_)
  · have h := ifT c_18 h
    refine k_lv (lv' := [(0, .ref a_this), (1, .int v1)]) [0, 1] rfl ?_
    exact k0 _ (Option.some.inj h).symm
  · have h := ifF c_18 h
    refine k_aload_n C dX1_leastTogether_21 0 rfl rfl ?_
    refine k_iload_n C dX1_leastTogether_22 1 rfl rfl ?_
    refine k_iload_n C dX1_leastTogether_23 2 rfl rfl ?_
    obtain ⟨x3, hx3, h⟩ := bindE h
    refine kcallR_i C (wc := (cells_P_cellIn cI cL cZ a_this a_steps a_rest a_counts a_way a_open a_turnable a_turned c_width)) (r := x3) [0] (fun H locs ls hP hD hS hF hz => krunV C (q0 := 0) (ci := 1) (c_P_cellIn l D cI cL cZ X H.size a_this a_steps a_rest a_counts a_way a_open a_turnable a_turned v1 v2 c_width x3 hx3) (cwV 2 C.2.2.2.2.1 (gV wq_278 wq_279 wq_280 wq_267 wq_277) rfl rfl rfl (by decide +kernel) ⟨(Nat.le_of_ble_eq_true rfl), (Nat.le_of_ble_eq_true rfl)⟩) rfl rfl (kEs_call hE hS hF) rfl rfl (Nat.le_of_ble_eq_true rfl) dX1_leastTogether_24 hP hD hz) rfl (by decide) ?_
    refine k_istore_n C (lv' := [(3, .int x3), (0, .ref a_this), (1, .int v1), (2, .int v2)]) dX1_leastTogether_27 rfl (by decide) rfl ?_
    refine k_aload_n C dX1_leastTogether_28 1 rfl rfl ?_
    refine k_get C (C0 := RX1) (T := TX1) (N := 8) (fun w h => List.mem_cons_of_mem _ (us_P w h)) 0 rfl rfl 1 (by decide) (List.mem_cons_of_mem _ wq_276) rfl rfl dX1_leastTogether_29 ?_
    refine k_iload_n C dX1_leastTogether_32 0 rfl rfl ?_
    refine k_aload_n C dX1_leastTogether_33 1 rfl rfl ?_
    refine k_get C (C0 := RX1) (T := TX1) (N := 8) (fun w h => List.mem_cons_of_mem _ (us_P w h)) 0 rfl rfl 0 (by decide) (List.mem_cons_of_mem _ wq_256) rfl rfl dX1_leastTogether_34 ?_
    refine k_iload_n C dX1_leastTogether_37 0 rfl rfl ?_
    obtain ⟨x4, hx4, h⟩ := bindE h
    refine k_iald C 1 0 rfl rfl hx4 dX1_leastTogether_38 ?_
    refine k_aload_n C dX1_leastTogether_39 1 rfl rfl ?_
    refine k_iload_n C dX1_leastTogether_40 2 rfl rfl ?_
    refine k_iload_n C dX1_leastTogether_41 3 rfl rfl ?_
    obtain ⟨x5, hx5, h⟩ := bindE h
    refine kcallR_i C (wc := (cells_P_leastBehind cI cL cZ a_this a_steps a_rest a_counts a_way a_open a_turnable a_turned c_width c_rest)) (r := x5) [0, 2] (fun H locs ls hP hD hS hF hz => krunV C (q0 := 0) (ci := 1) (c_P_leastBehind l D cI cL cZ X H.size a_this a_steps a_rest a_counts a_way a_open a_turnable a_turned v1 v2 c_width c_rest x5 hx5) (cwV 2 C.2.2.2.2.1 (gV wq_283 wq_284 wq_285 wq_267 wq_282) rfl rfl rfl (by decide +kernel) ⟨(Nat.le_of_ble_eq_true rfl), (Nat.le_of_ble_eq_true rfl)⟩) rfl rfl (kEs_call hE hS hF) rfl rfl (Nat.le_of_ble_eq_true rfl) dX1_leastTogether_42 hP hD hz) rfl (by decide) ?_
    refine k_iadd C dX1_leastTogether_45 ?_
    obtain ⟨x6, hx6, h⟩ := bindE h
    refine k_iast C 2 0 (ws' := (cells_P_leastTogether cI cL cZ a_this a_steps a_rest a_counts a_way a_open a_turnable a_turned c_width c_steps x6 c_way)) rfl rfl hx6 rfl dX1_leastTogether_46 ?_
    refine k_iinc C (v := (v2 + (1 : Int32))) (lv' := [(2, .int (v2 + (1 : Int32))), (3, .int x3), (0, .ref a_this), (1, .int v1)]) dX1_leastTogether_47 3 rfl rfl (by decide) rfl ?_
    refine k_goto C (tgt := 13) dX1_leastTogether_50 (by decide) ?_
    refine k_lv (lv' := [(0, .ref a_this), (1, .int v1), (2, .int (v2 + (1 : Int32)))]) [2, 3, 0] rfl ?_
    exact kc _ (Option.some.inj h).symm
set_option maxRecDepth 100000 in
set_option maxHeartbeats 4000000 in
theorem s_P_leastTogether_l13 (C : kC p l e rm_P_leastTogether s m args below meth c D (tyG cI cL cZ) A 4 cX1_leastTogether yX1_leastTogether.cls (Cond.code yX1_leastTogether cX1_leastTogether 4 (some .int) :: WS) (some .int)) {X : kX} (hE : kEs X A s) {a_this : Nat} {a_steps : Nat} {a_rest : Nat} {a_counts : Nat} {a_way : Nat} {a_open : Nat} {a_turnable : Nat} {a_turned : Nat} {v1 : Int32} {v2 : Int32} {c_width : Int32} {c_steps : (Nat → Int32)} {c_rest : (Nat → Int32)} {c_way : (Nat → Int32)} {x : (Nat → Int32)} (h : f_P_leastTogether_l13 v1 c_width c_steps v2 c_rest = some x)
    (k0 : kW p l e rm_P_leastTogether s m args below meth c D A 4 (cells_P_leastTogether cI cL cZ a_this a_steps a_rest a_counts a_way a_open a_turnable a_turned c_width c_steps x c_way) [(0, .ref a_this), (1, .int v1)] Q 53 []) :
    kW p l e rm_P_leastTogether s m args below meth c D A 4 (cells_P_leastTogether cI cL cZ a_this a_steps a_rest a_counts a_way a_open a_turnable a_turned c_width c_steps c_rest c_way) [(0, .ref a_this), (1, .int v1), (2, .int v2)] Q 13 [] := by
  unfold f_P_leastTogether_l13 at h
  exact iter_W (body := fun s => f_P_leastTogether_b13 v1 c_width c_steps s.1 s.2) (r := x) (T := fun sg => kW p l e rm_P_leastTogether s m args below meth c D A 4 (cells_P_leastTogether cI cL cZ a_this a_steps a_rest a_counts a_way a_open a_turnable a_turned c_width c_steps sg.2 c_way) [(0, .ref a_this), (1, .int v1), (2, .int sg.1)] Q 13 []) (fun sg y hy hc _ hr => s_P_leastTogether_b13 C hE (v1 := v1) (v2 := sg.1) (c_width := c_width) (c_steps := c_steps) (c_rest := sg.2) (c_way := c_way) (x := y) hy hc (fun r e => by rw [hr r e]; exact k0)) FUEL (v2, c_rest) h
set_option maxRecDepth 100000 in
set_option maxHeartbeats 4000000 in
theorem s_P_leastTogether_b7 (C : kC p l e rm_P_leastTogether s m args below meth c D (tyG cI cL cZ) A 4 cX1_leastTogether yX1_leastTogether.cls (Cond.code yX1_leastTogether cX1_leastTogether 4 (some .int) :: WS) (some .int)) {X : kX} (hE : kEs X A s) {a_this : Nat} {a_steps : Nat} {a_rest : Nat} {a_counts : Nat} {a_way : Nat} {a_open : Nat} {a_turnable : Nat} {a_turned : Nat} {v1 : Int32} {c_width : Int32} {c_steps : (Nat → Int32)} {c_rest : (Nat → Int32)} {c_way : (Nat → Int32)} {x : ((Int32 × (Nat → Int32)) ⊕ (Nat → Int32))} (h : f_P_leastTogether_b7 c_width c_steps v1 c_rest = some x)
    (kc : ∀ s', x = .inl s' → kW p l e rm_P_leastTogether s m args below meth c D A 4 (cells_P_leastTogether cI cL cZ a_this a_steps a_rest a_counts a_way a_open a_turnable a_turned c_width c_steps s'.2 c_way) [(0, .ref a_this), (1, .int s'.1)] Q 7 [])
    (k0 : ∀ r, x = .inr r → kW p l e rm_P_leastTogether s m args below meth c D A 4 (cells_P_leastTogether cI cL cZ a_this a_steps a_rest a_counts a_way a_open a_turnable a_turned c_width c_steps r c_way) [(0, .ref a_this)] Q 59 []) :
    kW p l e rm_P_leastTogether s m args below meth c D A 4 (cells_P_leastTogether cI cL cZ a_this a_steps a_rest a_counts a_way a_open a_turnable a_turned c_width c_steps c_rest c_way) [(0, .ref a_this), (1, .int v1)] Q 7 [] := by
  unfold f_P_leastTogether_b7 at h
  refine k_iload_n C dX1_leastTogether_7 1 rfl rfl ?_
  refine k_if_lt C (tgt := 59) dX1_leastTogether_8 (by decide) (fun c_8 => ?_) (fun c_8 => ?_)
  · have h := ifT c_8 h
    refine k_lv (lv' := [(0, .ref a_this)]) [0] rfl ?_
    exact k0 _ (Option.some.inj h).symm
  · have h := ifF c_8 h
    refine k_iconst C (v := (0 : Int32)) dX1_leastTogether_11 (by decide) ?_
    refine k_istore_n C (lv' := [(2, .int (0 : Int32)), (0, .ref a_this), (1, .int v1)]) dX1_leastTogether_12 rfl (by decide) rfl ?_
    obtain ⟨x7, hx7, h⟩ := bindE h
    refine k_lv (lv' := [(0, .ref a_this), (1, .int v1), (2, .int (0 : Int32))]) [1, 2, 0] rfl ?_
    refine s_P_leastTogether_l13 C hE hx7 ?_
    refine k_iinc C (v := (v1 + (-1 : Int32))) (lv' := [(1, .int (v1 + (-1 : Int32))), (0, .ref a_this)]) dX1_leastTogether_53 1 rfl rfl (by decide) rfl ?_
    refine k_goto C (tgt := 7) dX1_leastTogether_56 (by decide) ?_
    refine k_lv (lv' := [(0, .ref a_this), (1, .int (v1 + (-1 : Int32)))]) [1, 0] rfl ?_
    exact kc _ (Option.some.inj h).symm
set_option maxRecDepth 100000 in
set_option maxHeartbeats 4000000 in
theorem s_P_leastTogether_l7 (C : kC p l e rm_P_leastTogether s m args below meth c D (tyG cI cL cZ) A 4 cX1_leastTogether yX1_leastTogether.cls (Cond.code yX1_leastTogether cX1_leastTogether 4 (some .int) :: WS) (some .int)) {X : kX} (hE : kEs X A s) {a_this : Nat} {a_steps : Nat} {a_rest : Nat} {a_counts : Nat} {a_way : Nat} {a_open : Nat} {a_turnable : Nat} {a_turned : Nat} {v1 : Int32} {c_width : Int32} {c_steps : (Nat → Int32)} {c_rest : (Nat → Int32)} {c_way : (Nat → Int32)} {x : (Nat → Int32)} (h : f_P_leastTogether_l7 c_width c_steps v1 c_rest = some x)
    (k0 : kW p l e rm_P_leastTogether s m args below meth c D A 4 (cells_P_leastTogether cI cL cZ a_this a_steps a_rest a_counts a_way a_open a_turnable a_turned c_width c_steps x c_way) [(0, .ref a_this)] Q 59 []) :
    kW p l e rm_P_leastTogether s m args below meth c D A 4 (cells_P_leastTogether cI cL cZ a_this a_steps a_rest a_counts a_way a_open a_turnable a_turned c_width c_steps c_rest c_way) [(0, .ref a_this), (1, .int v1)] Q 7 [] := by
  unfold f_P_leastTogether_l7 at h
  exact iter_W (body := fun s => f_P_leastTogether_b7 c_width c_steps s.1 s.2) (r := x) (T := fun sg => kW p l e rm_P_leastTogether s m args below meth c D A 4 (cells_P_leastTogether cI cL cZ a_this a_steps a_rest a_counts a_way a_open a_turnable a_turned c_width c_steps sg.2 c_way) [(0, .ref a_this), (1, .int sg.1)] Q 7 []) (fun sg y hy hc _ hr => s_P_leastTogether_b7 C hE (v1 := sg.1) (c_width := c_width) (c_steps := c_steps) (c_rest := sg.2) (c_way := c_way) (x := y) hy hc (fun r e => by rw [hr r e]; exact k0)) FUEL (v1, c_rest) h
set_option maxRecDepth 100000 in
set_option maxHeartbeats 4000000 in
theorem s_P_leastTogether (C : kC p l e rm_P_leastTogether s m args below meth c D (tyG cI cL cZ) A 4 cX1_leastTogether yX1_leastTogether.cls (Cond.code yX1_leastTogether cX1_leastTogether 4 (some .int) :: WS) (some .int)) {X : kX} (hE : kEs X A s) {a_this : Nat} {a_steps : Nat} {a_rest : Nat} {a_counts : Nat} {a_way : Nat} {a_open : Nat} {a_turnable : Nat} {a_turned : Nat} {c_width : Int32} {c_steps : (Nat → Int32)} {c_rest : (Nat → Int32)} {c_way : (Nat → Int32)} {x : (Int32 × (Nat → Int32) × (Nat → Int32))} (h : f_P_leastTogether c_width c_steps c_rest c_way = some x) :
    kW p l e rm_P_leastTogether s m args below meth c D A 4 (cells_P_leastTogether cI cL cZ a_this a_steps a_rest a_counts a_way a_open a_turnable a_turned c_width c_steps c_rest c_way) [(0, .ref a_this)] (MQ below (kQi D A (cells_P_leastTogether cI cL cZ a_this a_steps a_rest a_counts a_way a_open a_turnable a_turned c_width c_steps x.2.1 x.2.2) x.1) args s 0 0 A) 0 [] := by
  unfold f_P_leastTogether at h
  refine k_aload_n C dX1_leastTogether_0 0 rfl rfl ?_
  obtain ⟨x1, hx1, h⟩ := bindE h
  refine kcallR_i C (wc := (cells_P_length cI cL cZ a_this a_steps a_rest a_counts a_way a_open a_turnable a_turned c_width)) (r := x1) [0] (fun H locs ls hP hD hS hF hz => krunV C (q0 := 0) (ci := 1) (c_P_length l D cI cL cZ H.size a_this a_steps a_rest a_counts a_way a_open a_turnable a_turned c_width x1 hx1) (cwV 0 C.2.2.2.2.1 (gV wq_271 wq_272 wq_273 wq_267 wq_270) rfl rfl rfl (by decide +kernel) ⟨(Nat.le_of_ble_eq_true rfl), (Nat.le_of_ble_eq_true rfl)⟩) rfl rfl kEnv_T rfl rfl (Nat.le_of_ble_eq_true rfl) dX1_leastTogether_1 hP hD hz) rfl (by decide) ?_
  refine k_iconst C (v := (1 : Int32)) dX1_leastTogether_4 (by decide) ?_
  refine k_isub C dX1_leastTogether_5 ?_
  refine k_istore_n C (lv' := [(1, .int (x1 - (1 : Int32))), (0, .ref a_this)]) dX1_leastTogether_6 rfl (by decide) rfl ?_
  obtain ⟨x8, hx8, h⟩ := bindE h
  refine k_lv (lv' := [(0, .ref a_this), (1, .int (x1 - (1 : Int32)))]) [1, 0] rfl ?_
  refine s_P_leastTogether_l7 C hE hx8 ?_
  refine k_aload_n C dX1_leastTogether_59 0 rfl rfl ?_
  obtain ⟨x9, hx9, h⟩ := bindE h
  refine kcallR_i C (wc := (cells_P_leastAtGate cI cL cZ a_this a_steps a_rest a_counts a_way a_open a_turnable a_turned c_width x8)) (r := x9) [0, 2] (fun H locs ls hP hD hS hF hz => krunV C (q0 := 0) (ci := 1) (c_P_leastAtGate l D cI cL cZ X H.size a_this a_steps a_rest a_counts a_way a_open a_turnable a_turned c_width x8 x9 hx9) (cwV 0 C.2.2.2.2.1 (gV wq_287 wq_288 wq_289 wq_267 wq_286) rfl rfl rfl (by decide +kernel) ⟨(Nat.le_of_ble_eq_true rfl), (Nat.le_of_ble_eq_true rfl)⟩) rfl rfl (kEs_call hE hS hF) rfl rfl (Nat.le_of_ble_eq_true rfl) dX1_leastTogether_60 hP hD hz) rfl (by decide) ?_
  refine k_istore_n C (lv' := [(1, .int x9), (0, .ref a_this)]) dX1_leastTogether_63 rfl (by decide) rfl ?_
  refine k_aload_n C dX1_leastTogether_64 1 rfl rfl ?_
  refine k_iload_n C dX1_leastTogether_65 0 rfl rfl ?_
  refine k_iconst C (v := (1 : Int32)) dX1_leastTogether_66 (by decide) ?_
  obtain ⟨x10, hx10, h⟩ := bindE h
  refine kcallU_v C (wc := (cells_P_keepFirst cI cL cZ a_this a_steps a_rest a_counts a_way a_open a_turnable a_turned c_width c_steps x8 c_way)) (w1 := (cells_P_keepFirst cI cL cZ a_this a_steps a_rest a_counts a_way a_open a_turnable a_turned c_width c_steps x8 x10)) (ws' := (cells_P_leastTogether cI cL cZ a_this a_steps a_rest a_counts a_way a_open a_turnable a_turned c_width c_steps x8 x10)) [0, 1, 2, 3] (fun H locs ls hP hD hS hF hz => krunV C (q0 := 0) (ci := 1) (c_P_keepFirst l D cI cL cZ X H.size a_this a_steps a_rest a_counts a_way a_open a_turnable a_turned x9 (1 : Int32) c_width c_steps x8 c_way x10 hx10) (cwV 2 C.2.2.2.2.1 (gV wq_291 wq_292 wq_293 wq_267 wq_290) rfl rfl rfl (by decide +kernel) ⟨(Nat.le_of_ble_eq_true rfl), (Nat.le_of_ble_eq_true rfl)⟩) rfl rfl (kEs_call hE hS hF) rfl rfl (Nat.le_of_ble_eq_true rfl) dX1_leastTogether_67 hP hD hz) rfl (by decide) rfl rfl ?_
  refine k_iload_n C dX1_leastTogether_70 0 rfl rfl ?_
  obtain rfl := Option.some.inj h
  exact kret_i C rfl dX1_leastTogether_71
theorem c_P_leastTogether (l : Launch) (D : va_G) (cI : ClassId) (cL : ClassId) (cZ : ClassId) (X : kX) (sz : Nat) (a_this : Nat) (a_steps : Nat) (a_rest : Nat) (a_counts : Nat) (a_way : Nat) (a_open : Nat) (a_turnable : Nat) (a_turned : Nat) (c_width : Int32) (c_steps : (Nat → Int32)) (c_rest : (Nat → Int32)) (c_way : (Nat → Int32)) (x : (Int32 × (Nat → Int32) × (Nat → Int32))) (h : f_P_leastTogether c_width c_steps c_rest c_way = some x) :
    Met l yX1_leastTogether (Cond.code yX1_leastTogether cX1_leastTogether 4 (some .int) :: WS) rm_P_leastTogether (kP D (tyG cI cL cZ) (kEs X (va_A (cells_P_leastTogether cI cL cZ a_this a_steps a_rest a_counts a_way a_open a_turnable a_turned c_width c_steps c_rest c_way) sz)) [.ref a_this] sz (cells_P_leastTogether cI cL cZ a_this a_steps a_rest a_counts a_way a_open a_turnable a_turned c_width c_steps c_rest c_way)) (kQi D (va_A (cells_P_leastTogether cI cL cZ a_this a_steps a_rest a_counts a_way a_open a_turnable a_turned c_width c_steps c_rest c_way) sz) (cells_P_leastTogether cI cL cZ a_this a_steps a_rest a_counts a_way a_open a_turnable a_turned c_width c_steps x.2.1 x.2.2) x.1) 0 0 (va_A (cells_P_leastTogether cI cL cZ a_this a_steps a_rest a_counts a_way a_open a_turnable a_turned c_width c_steps c_rest c_way) sz) :=
  kmet (by decide) (Nat.le_of_ble_eq_true rfl) rfl (fun p e s m below meth c C hE => s_P_leastTogether C hE h)
abbrev cells_M_leastOf (cI : ClassId) (cL : ClassId) (cZ : ClassId) (a_this : Nat) (a_now : Nat) (a_kept : Nat) (a_trial : Nat) (a_shelves : Nat) (a_tape : Nat) (a_paths : Nat) (a_sounds : Nat) (a_volumes : Nat) (a_refusals : Nat) (a_now_stones : Nat) (a_now_kinds : Nat) (a_now_weights : Nat) (a_now_chances : Nat) (a_paths_steps : Nat) (a_paths_rest : Nat) (a_paths_counts : Nat) (a_paths_way : Nat) (a_paths_open : Nat) (a_paths_turnable : Nat) (a_paths_turned : Nat) (c_isKept : Int32) (c_now_width : Int32) (c_now_rain : Int32) (c_now_ear : Int32) (c_now_walkers : Int32) (c_now_seed : Int32) (c_now_stones : (Nat → Int32)) (c_now_kinds : (Nat → Int32)) (c_now_weights : (Nat → Int32)) (c_paths_width : Int32) (c_paths_steps : (Nat → Int32)) (c_paths_rest : (Nat → Int32)) (c_paths_way : (Nat → Int32)) : va_W := [(a_this, .inr (4, [.ref a_now, .ref a_kept, .ref a_trial, .ref a_shelves, .ref a_tape, .ref a_paths, .ref a_sounds, .ref a_volumes, .ref a_refusals, .int c_isKept])), (a_now, .inr (0, [.ref a_now_stones, .ref a_now_kinds, .ref a_now_weights, .ref a_now_chances, .int c_now_width, .int c_now_rain, .int c_now_ear, .int c_now_walkers, .int c_now_seed])), (a_now_stones, .inl (cI, 36, .inl c_now_stones)), (a_now_kinds, .inl (cI, 8, .inl c_now_kinds)), (a_now_weights, .inl (cI, 8, .inl c_now_weights)), (a_paths, .inr (1, [.ref a_paths_steps, .ref a_paths_rest, .ref a_paths_counts, .ref a_paths_way, .ref a_paths_open, .ref a_paths_turnable, .ref a_paths_turned, .int c_paths_width])), (a_paths_steps, .inl (cI, 36, .inl c_paths_steps)), (a_paths_rest, .inl (cI, 36, .inl c_paths_rest)), (a_paths_way, .inl (cI, 6, .inl c_paths_way))]
abbrev rm_M_leastOf : Room := { frames := 5, cells := 0, slots := 0, locals := 127 }
set_option maxRecDepth 100000 in
set_option maxHeartbeats 4000000 in
theorem s_M_leastOf (C : kC p l e rm_M_leastOf s m args below meth c D (tyG cI cL cZ) A 2 cX4_leastOf yX4_leastOf.cls (Cond.code yX4_leastOf cX4_leastOf 2 (some .int) :: WS) (some .int)) {X : kX} (hE : kEs X A s) {a_this : Nat} {a_now : Nat} {a_kept : Nat} {a_trial : Nat} {a_shelves : Nat} {a_tape : Nat} {a_paths : Nat} {a_sounds : Nat} {a_volumes : Nat} {a_refusals : Nat} {a_now_stones : Nat} {a_now_kinds : Nat} {a_now_weights : Nat} {a_now_chances : Nat} {a_paths_steps : Nat} {a_paths_rest : Nat} {a_paths_counts : Nat} {a_paths_way : Nat} {a_paths_open : Nat} {a_paths_turnable : Nat} {a_paths_turned : Nat} {v1 : Int32} {c_isKept : Int32} {c_now_width : Int32} {c_now_rain : Int32} {c_now_ear : Int32} {c_now_walkers : Int32} {c_now_seed : Int32} {c_now_stones : (Nat → Int32)} {c_now_kinds : (Nat → Int32)} {c_now_weights : (Nat → Int32)} {c_paths_width : Int32} {c_paths_steps : (Nat → Int32)} {c_paths_rest : (Nat → Int32)} {c_paths_way : (Nat → Int32)} {x : (Int32 × Int32 × (Nat → Int32) × (Nat → Int32) × (Nat → Int32))} (h : f_M_leastOf v1 c_now_width c_now_rain c_now_stones c_now_kinds c_now_weights c_paths_width c_paths_steps c_paths_rest c_paths_way = some x) :
    kW p l e rm_M_leastOf s m args below meth c D A 2 (cells_M_leastOf cI cL cZ a_this a_now a_kept a_trial a_shelves a_tape a_paths a_sounds a_volumes a_refusals a_now_stones a_now_kinds a_now_weights a_now_chances a_paths_steps a_paths_rest a_paths_counts a_paths_way a_paths_open a_paths_turnable a_paths_turned c_isKept c_now_width c_now_rain c_now_ear c_now_walkers c_now_seed c_now_stones c_now_kinds c_now_weights c_paths_width c_paths_steps c_paths_rest c_paths_way) [(0, .ref a_this), (1, .int v1)] (MQ below (kQi D A (cells_M_leastOf cI cL cZ a_this a_now a_kept a_trial a_shelves a_tape a_paths a_sounds a_volumes a_refusals a_now_stones a_now_kinds a_now_weights a_now_chances a_paths_steps a_paths_rest a_paths_counts a_paths_way a_paths_open a_paths_turnable a_paths_turned c_isKept c_now_width c_now_rain c_now_ear c_now_walkers c_now_seed c_now_stones c_now_kinds c_now_weights x.2.1 x.2.2.1 x.2.2.2.1 x.2.2.2.2) x.1) args s 0 0 A) 0 [] := by
  unfold f_M_leastOf at h
  refine k_aload_n C dX4_leastOf_0 0 rfl rfl ?_
  refine k_iload_n C dX4_leastOf_1 1 rfl rfl ?_
  refine k_iconst C (v := (1 : Int32)) dX4_leastOf_2 (by decide) ?_
  obtain ⟨x1, hx1, h⟩ := bindE h
  refine kcallU_v C (wc := (cells_M_layCrunches cI cL cZ a_this a_now a_kept a_trial a_shelves a_tape a_paths a_sounds a_volumes a_refusals a_now_stones a_now_kinds a_now_weights a_now_chances a_paths_steps a_paths_rest a_paths_counts a_paths_way a_paths_open a_paths_turnable a_paths_turned c_isKept c_now_width c_now_rain c_now_ear c_now_walkers c_now_seed c_now_stones c_now_kinds c_now_weights c_paths_width c_paths_steps)) (w1 := (cells_M_layCrunches cI cL cZ a_this a_now a_kept a_trial a_shelves a_tape a_paths a_sounds a_volumes a_refusals a_now_stones a_now_kinds a_now_weights a_now_chances a_paths_steps a_paths_rest a_paths_counts a_paths_way a_paths_open a_paths_turnable a_paths_turned c_isKept c_now_width c_now_rain c_now_ear c_now_walkers c_now_seed c_now_stones c_now_kinds c_now_weights x1.1 x1.2)) (ws' := (cells_M_leastOf cI cL cZ a_this a_now a_kept a_trial a_shelves a_tape a_paths a_sounds a_volumes a_refusals a_now_stones a_now_kinds a_now_weights a_now_chances a_paths_steps a_paths_rest a_paths_counts a_paths_way a_paths_open a_paths_turnable a_paths_turned c_isKept c_now_width c_now_rain c_now_ear c_now_walkers c_now_seed c_now_stones c_now_kinds c_now_weights x1.1 x1.2 c_paths_rest c_paths_way)) [0, 1, 2, 3, 4, 5, 6] (fun H locs ls hP hD hS hF hz => krunV C (q0 := 0) (ci := 4) (c_M_layCrunches l D cI cL cZ X H.size a_this a_now a_kept a_trial a_shelves a_tape a_paths a_sounds a_volumes a_refusals a_now_stones a_now_kinds a_now_weights a_now_chances a_paths_steps a_paths_rest a_paths_counts a_paths_way a_paths_open a_paths_turnable a_paths_turned v1 (1 : Int32) c_isKept c_now_width c_now_rain c_now_ear c_now_walkers c_now_seed c_now_stones c_now_kinds c_now_weights c_paths_width c_paths_steps x1 hx1) (cwV 2 C.2.2.2.2.1 (gV wq_295 wq_296 wq_297 wq_3 wq_294) rfl rfl rfl (by decide +kernel) ⟨(Nat.le_of_ble_eq_true rfl), (Nat.le_of_ble_eq_true rfl)⟩) rfl rfl (kEs_call hE hS hF) rfl rfl (Nat.le_of_ble_eq_true rfl) dX4_leastOf_3 hP hD hz) rfl (by decide) rfl rfl ?_
  refine k_aload_n C dX4_leastOf_6 0 rfl rfl ?_
  refine k_get C (C0 := RX4) (T := TX4) (N := 10) (fun w h => List.mem_cons_of_mem _ (us_M w h)) 0 rfl rfl 5 (by decide) (List.mem_cons_of_mem _ wq_257) rfl rfl dX4_leastOf_7 ?_
  obtain ⟨x2, hx2, h⟩ := bindE h
  refine kcallU_i C (wc := (cells_P_leastTogether cI cL cZ a_paths a_paths_steps a_paths_rest a_paths_counts a_paths_way a_paths_open a_paths_turnable a_paths_turned x1.1 x1.2 c_paths_rest c_paths_way)) (w1 := (cells_P_leastTogether cI cL cZ a_paths a_paths_steps a_paths_rest a_paths_counts a_paths_way a_paths_open a_paths_turnable a_paths_turned x1.1 x1.2 x2.2.1 x2.2.2)) (ws' := (cells_M_leastOf cI cL cZ a_this a_now a_kept a_trial a_shelves a_tape a_paths a_sounds a_volumes a_refusals a_now_stones a_now_kinds a_now_weights a_now_chances a_paths_steps a_paths_rest a_paths_counts a_paths_way a_paths_open a_paths_turnable a_paths_turned c_isKept c_now_width c_now_rain c_now_ear c_now_walkers c_now_seed c_now_stones c_now_kinds c_now_weights x1.1 x1.2 x2.2.1 x2.2.2)) (r := x2.1) [5, 6, 7, 8] (fun H locs ls hP hD hS hF hz => krunV C (q0 := 0) (ci := 1) (c_P_leastTogether l D cI cL cZ X H.size a_paths a_paths_steps a_paths_rest a_paths_counts a_paths_way a_paths_open a_paths_turnable a_paths_turned x1.1 x1.2 c_paths_rest c_paths_way x2 hx2) (cwV 0 C.2.2.2.2.1 (gV wq_299 wq_300 wq_301 wq_267 wq_298) rfl rfl rfl (by decide +kernel) ⟨(Nat.le_of_ble_eq_true rfl), (Nat.le_of_ble_eq_true rfl)⟩) rfl rfl (kEs_call hE hS hF) rfl rfl (Nat.le_of_ble_eq_true rfl) dX4_leastOf_10 hP hD hz) rfl (by decide) rfl rfl ?_
  obtain rfl := Option.some.inj h
  exact kret_i C rfl dX4_leastOf_13
theorem c_M_leastOf (l : Launch) (D : va_G) (cI : ClassId) (cL : ClassId) (cZ : ClassId) (X : kX) (sz : Nat) (a_this : Nat) (a_now : Nat) (a_kept : Nat) (a_trial : Nat) (a_shelves : Nat) (a_tape : Nat) (a_paths : Nat) (a_sounds : Nat) (a_volumes : Nat) (a_refusals : Nat) (a_now_stones : Nat) (a_now_kinds : Nat) (a_now_weights : Nat) (a_now_chances : Nat) (a_paths_steps : Nat) (a_paths_rest : Nat) (a_paths_counts : Nat) (a_paths_way : Nat) (a_paths_open : Nat) (a_paths_turnable : Nat) (a_paths_turned : Nat) (v1 : Int32) (c_isKept : Int32) (c_now_width : Int32) (c_now_rain : Int32) (c_now_ear : Int32) (c_now_walkers : Int32) (c_now_seed : Int32) (c_now_stones : (Nat → Int32)) (c_now_kinds : (Nat → Int32)) (c_now_weights : (Nat → Int32)) (c_paths_width : Int32) (c_paths_steps : (Nat → Int32)) (c_paths_rest : (Nat → Int32)) (c_paths_way : (Nat → Int32)) (x : (Int32 × Int32 × (Nat → Int32) × (Nat → Int32) × (Nat → Int32))) (h : f_M_leastOf v1 c_now_width c_now_rain c_now_stones c_now_kinds c_now_weights c_paths_width c_paths_steps c_paths_rest c_paths_way = some x) :
    Met l yX4_leastOf (Cond.code yX4_leastOf cX4_leastOf 2 (some .int) :: WS) rm_M_leastOf (kP D (tyG cI cL cZ) (kEs X (va_A (cells_M_leastOf cI cL cZ a_this a_now a_kept a_trial a_shelves a_tape a_paths a_sounds a_volumes a_refusals a_now_stones a_now_kinds a_now_weights a_now_chances a_paths_steps a_paths_rest a_paths_counts a_paths_way a_paths_open a_paths_turnable a_paths_turned c_isKept c_now_width c_now_rain c_now_ear c_now_walkers c_now_seed c_now_stones c_now_kinds c_now_weights c_paths_width c_paths_steps c_paths_rest c_paths_way) sz)) [.ref a_this, .int v1] sz (cells_M_leastOf cI cL cZ a_this a_now a_kept a_trial a_shelves a_tape a_paths a_sounds a_volumes a_refusals a_now_stones a_now_kinds a_now_weights a_now_chances a_paths_steps a_paths_rest a_paths_counts a_paths_way a_paths_open a_paths_turnable a_paths_turned c_isKept c_now_width c_now_rain c_now_ear c_now_walkers c_now_seed c_now_stones c_now_kinds c_now_weights c_paths_width c_paths_steps c_paths_rest c_paths_way)) (kQi D (va_A (cells_M_leastOf cI cL cZ a_this a_now a_kept a_trial a_shelves a_tape a_paths a_sounds a_volumes a_refusals a_now_stones a_now_kinds a_now_weights a_now_chances a_paths_steps a_paths_rest a_paths_counts a_paths_way a_paths_open a_paths_turnable a_paths_turned c_isKept c_now_width c_now_rain c_now_ear c_now_walkers c_now_seed c_now_stones c_now_kinds c_now_weights c_paths_width c_paths_steps c_paths_rest c_paths_way) sz) (cells_M_leastOf cI cL cZ a_this a_now a_kept a_trial a_shelves a_tape a_paths a_sounds a_volumes a_refusals a_now_stones a_now_kinds a_now_weights a_now_chances a_paths_steps a_paths_rest a_paths_counts a_paths_way a_paths_open a_paths_turnable a_paths_turned c_isKept c_now_width c_now_rain c_now_ear c_now_walkers c_now_seed c_now_stones c_now_kinds c_now_weights x.2.1 x.2.2.1 x.2.2.2.1 x.2.2.2.2) x.1) 0 0 (va_A (cells_M_leastOf cI cL cZ a_this a_now a_kept a_trial a_shelves a_tape a_paths a_sounds a_volumes a_refusals a_now_stones a_now_kinds a_now_weights a_now_chances a_paths_steps a_paths_rest a_paths_counts a_paths_way a_paths_open a_paths_turnable a_paths_turned c_isKept c_now_width c_now_rain c_now_ear c_now_walkers c_now_seed c_now_stones c_now_kinds c_now_weights c_paths_width c_paths_steps c_paths_rest c_paths_way) sz) :=
  kmet (by decide) (Nat.le_of_ble_eq_true rfl) rfl (fun p e s m below meth c C hE => s_M_leastOf C hE h)
abbrev cells_P_cellOnWay (cI : ClassId) (cL : ClassId) (cZ : ClassId) (a_this : Nat) (a_steps : Nat) (a_rest : Nat) (a_counts : Nat) (a_way : Nat) (a_open : Nat) (a_turnable : Nat) (a_turned : Nat) (c_width : Int32) (c_way : (Nat → Int32)) : va_W := [(a_this, .inr (1, [.ref a_steps, .ref a_rest, .ref a_counts, .ref a_way, .ref a_open, .ref a_turnable, .ref a_turned, .int c_width])), (a_way, .inl (cI, 6, .inl c_way))]
abbrev rm_P_cellOnWay : Room := { frames := 1, cells := 0, slots := 0, locals := 22 }
set_option maxRecDepth 100000 in
set_option maxHeartbeats 4000000 in
theorem s_P_cellOnWay (C : kC p l e rm_P_cellOnWay s m args below meth c D (tyG cI cL cZ) A 2 cX1_cellOnWay yX1_cellOnWay.cls (Cond.code yX1_cellOnWay cX1_cellOnWay 2 (some .int) :: WS) (some .int)) {X : kX} (hE : kEs X A s) {a_this : Nat} {a_steps : Nat} {a_rest : Nat} {a_counts : Nat} {a_way : Nat} {a_open : Nat} {a_turnable : Nat} {a_turned : Nat} {v1 : Int32} {c_width : Int32} {c_way : (Nat → Int32)} {x : Int32} (h : f_P_cellOnWay v1 c_way = some x) :
    kW p l e rm_P_cellOnWay s m args below meth c D A 2 (cells_P_cellOnWay cI cL cZ a_this a_steps a_rest a_counts a_way a_open a_turnable a_turned c_width c_way) [(0, .ref a_this), (1, .int v1)] (MQ below (kQi D A (cells_P_cellOnWay cI cL cZ a_this a_steps a_rest a_counts a_way a_open a_turnable a_turned c_width c_way) x) args s 0 0 A) 0 [] := by
  unfold f_P_cellOnWay at h
  refine k_iload_n C dX1_cellOnWay_0 1 rfl rfl ?_
  refine k_iconst C (v := (0 : Int32)) dX1_cellOnWay_1 (by decide) ?_
  refine k_iconst C (v := (5 : Int32)) dX1_cellOnWay_2 (by decide) ?_
  obtain ⟨x1, hx1, h⟩ := bindE h
  refine kcallE_i C (r := x1) (fun H locs ls hP hD hS hF hz => krunSN C (c_M_isWithin l D cI cL cZ H.size v1 (0 : Int32) (5 : Int32) x1 hx1) ⟨va_cnB 3 C.2.2.2.2.1 (gW wq_0) rfl rfl rfl (hE.2.2.2.2.2.2.2 (RX1, 48, yX4_isWithin) (by decide +kernel)) (C.2.2.2.2.1 _ (List.mem_cons_of_mem _ wq_3)) (by decide +kernel) ⟨(Nat.le_of_ble_eq_true rfl), (Nat.le_of_ble_eq_true rfl)⟩, C.2.2.2.2.1 _ (List.mem_cons_of_mem _ wq_2), trivial⟩ kEnv_T rfl rfl (Nat.le_of_ble_eq_true rfl) dX1_cellOnWay_3 hP hD hz) ?_
  refine k_if_eq C (tgt := 18) dX1_cellOnWay_6 (by decide) (fun c_6 => ?_) (fun c_6 => ?_)
  · have h := ifT c_6 h
    refine k_iconst C (v := (-1 : Int32)) dX1_cellOnWay_18 (by decide) ?_
    obtain rfl := Option.some.inj h
    exact kret_i C rfl dX1_cellOnWay_19
  · have h := ifF c_6 h
    refine k_aload_n C dX1_cellOnWay_9 0 rfl rfl ?_
    refine k_get C (C0 := RX1) (T := TX1) (N := 8) (fun w h => List.mem_cons_of_mem _ (us_P w h)) 0 rfl rfl 3 (by decide) (List.mem_cons_of_mem _ wq_281) rfl rfl dX1_cellOnWay_10 ?_
    refine k_iload_n C dX1_cellOnWay_13 1 rfl rfl ?_
    obtain ⟨x2, hx2, h⟩ := bindE h
    refine k_iald C 1 0 rfl rfl hx2 dX1_cellOnWay_14 ?_
    refine k_goto C (tgt := 19) dX1_cellOnWay_15 (by decide) ?_
    obtain rfl := Option.some.inj h
    exact kret_i C rfl dX1_cellOnWay_19
theorem c_P_cellOnWay (l : Launch) (D : va_G) (cI : ClassId) (cL : ClassId) (cZ : ClassId) (X : kX) (sz : Nat) (a_this : Nat) (a_steps : Nat) (a_rest : Nat) (a_counts : Nat) (a_way : Nat) (a_open : Nat) (a_turnable : Nat) (a_turned : Nat) (v1 : Int32) (c_width : Int32) (c_way : (Nat → Int32)) (x : Int32) (h : f_P_cellOnWay v1 c_way = some x) :
    Met l yX1_cellOnWay (Cond.code yX1_cellOnWay cX1_cellOnWay 2 (some .int) :: WS) rm_P_cellOnWay (kP D (tyG cI cL cZ) (kEs X (va_A (cells_P_cellOnWay cI cL cZ a_this a_steps a_rest a_counts a_way a_open a_turnable a_turned c_width c_way) sz)) [.ref a_this, .int v1] sz (cells_P_cellOnWay cI cL cZ a_this a_steps a_rest a_counts a_way a_open a_turnable a_turned c_width c_way)) (kQi D (va_A (cells_P_cellOnWay cI cL cZ a_this a_steps a_rest a_counts a_way a_open a_turnable a_turned c_width c_way) sz) (cells_P_cellOnWay cI cL cZ a_this a_steps a_rest a_counts a_way a_open a_turnable a_turned c_width c_way) x) 0 0 (va_A (cells_P_cellOnWay cI cL cZ a_this a_steps a_rest a_counts a_way a_open a_turnable a_turned c_width c_way) sz) :=
  kmet (by decide) (Nat.le_of_ble_eq_true rfl) rfl (fun p e s m below meth c C hE => s_P_cellOnWay C hE h)
abbrev cells_M_quietest (cI : ClassId) (cL : ClassId) (cZ : ClassId) (a_this : Nat) (a_now : Nat) (a_kept : Nat) (a_trial : Nat) (a_shelves : Nat) (a_tape : Nat) (a_paths : Nat) (a_sounds : Nat) (a_volumes : Nat) (a_refusals : Nat) (a_now_stones : Nat) (a_now_kinds : Nat) (a_now_weights : Nat) (a_now_chances : Nat) (a_paths_steps : Nat) (a_paths_rest : Nat) (a_paths_counts : Nat) (a_paths_way : Nat) (a_paths_open : Nat) (a_paths_turnable : Nat) (a_paths_turned : Nat) (c_isKept : Int32) (c_now_width : Int32) (c_now_rain : Int32) (c_now_ear : Int32) (c_now_walkers : Int32) (c_now_seed : Int32) (c_now_stones : (Nat → Int32)) (c_now_kinds : (Nat → Int32)) (c_now_weights : (Nat → Int32)) (c_paths_width : Int32) (c_paths_steps : (Nat → Int32)) (c_paths_rest : (Nat → Int32)) (c_paths_way : (Nat → Int32)) (c_refusals : (Nat → Int32)) : va_W := [(a_this, .inr (4, [.ref a_now, .ref a_kept, .ref a_trial, .ref a_shelves, .ref a_tape, .ref a_paths, .ref a_sounds, .ref a_volumes, .ref a_refusals, .int c_isKept])), (a_now, .inr (0, [.ref a_now_stones, .ref a_now_kinds, .ref a_now_weights, .ref a_now_chances, .int c_now_width, .int c_now_rain, .int c_now_ear, .int c_now_walkers, .int c_now_seed])), (a_now_stones, .inl (cI, 36, .inl c_now_stones)), (a_now_kinds, .inl (cI, 8, .inl c_now_kinds)), (a_now_weights, .inl (cI, 8, .inl c_now_weights)), (a_paths, .inr (1, [.ref a_paths_steps, .ref a_paths_rest, .ref a_paths_counts, .ref a_paths_way, .ref a_paths_open, .ref a_paths_turnable, .ref a_paths_turned, .int c_paths_width])), (a_paths_steps, .inl (cI, 36, .inl c_paths_steps)), (a_paths_rest, .inl (cI, 36, .inl c_paths_rest)), (a_paths_way, .inl (cI, 6, .inl c_paths_way)), (a_refusals, .inl (cI, 5, .inl c_refusals))]
abbrev rm_M_quietest : Room := { frames := 6, cells := 0, slots := 0, locals := 148 }
set_option maxRecDepth 100000 in
set_option maxHeartbeats 4000000 in
theorem s_M_quietest_j16 (C : kC p l e rm_M_quietest s m args below meth c D (tyG cI cL cZ) A 4 cX4_quietest yX4_quietest.cls (Cond.code yX4_quietest cX4_quietest 4 (some .int) :: WS) (some .int)) {X : kX} (hE : kEs X A s) {a_this : Nat} {a_now : Nat} {a_kept : Nat} {a_trial : Nat} {a_shelves : Nat} {a_tape : Nat} {a_paths : Nat} {a_sounds : Nat} {a_volumes : Nat} {a_refusals : Nat} {a_now_stones : Nat} {a_now_kinds : Nat} {a_now_weights : Nat} {a_now_chances : Nat} {a_paths_steps : Nat} {a_paths_rest : Nat} {a_paths_counts : Nat} {a_paths_way : Nat} {a_paths_open : Nat} {a_paths_turnable : Nat} {a_paths_turned : Nat} {c_isKept : Int32} {c_now_width : Int32} {c_now_rain : Int32} {c_now_ear : Int32} {c_now_walkers : Int32} {c_now_seed : Int32} {c_now_stones : (Nat → Int32)} {c_now_kinds : (Nat → Int32)} {c_now_weights : (Nat → Int32)} {c_paths_width : Int32} {c_paths_steps : (Nat → Int32)} {c_paths_rest : (Nat → Int32)} {c_paths_way : (Nat → Int32)} {c_refusals : (Nat → Int32)} {x : (Int32 × Int32 × (Nat → Int32) × (Nat → Int32) × (Nat → Int32) × (Nat → Int32))} (h : f_M_quietest_j16 c_paths_width c_paths_steps c_paths_rest c_paths_way c_refusals = some x) :
    kW p l e rm_M_quietest s m args below meth c D A 4 (cells_M_quietest cI cL cZ a_this a_now a_kept a_trial a_shelves a_tape a_paths a_sounds a_volumes a_refusals a_now_stones a_now_kinds a_now_weights a_now_chances a_paths_steps a_paths_rest a_paths_counts a_paths_way a_paths_open a_paths_turnable a_paths_turned c_isKept c_now_width c_now_rain c_now_ear c_now_walkers c_now_seed c_now_stones c_now_kinds c_now_weights c_paths_width c_paths_steps c_paths_rest c_paths_way c_refusals) [(0, .ref a_this)] (MQ below (kQi D A (cells_M_quietest cI cL cZ a_this a_now a_kept a_trial a_shelves a_tape a_paths a_sounds a_volumes a_refusals a_now_stones a_now_kinds a_now_weights a_now_chances a_paths_steps a_paths_rest a_paths_counts a_paths_way a_paths_open a_paths_turnable a_paths_turned c_isKept c_now_width c_now_rain c_now_ear c_now_walkers c_now_seed c_now_stones c_now_kinds c_now_weights x.2.1 x.2.2.1 x.2.2.2.1 x.2.2.2.2.1 x.2.2.2.2.2) x.1) args s 0 0 A) 16 [] := by
  unfold f_M_quietest_j16 at h
  refine k_aload_n C dX4_quietest_16 0 rfl rfl ?_
  refine k_bipush C (v := (-2 : Int32)) dX4_quietest_17 (by decide) ?_
  obtain ⟨x2, hx2, h⟩ := bindE h
  refine kcallU_i C (wc := (cells_M_refuse cI cL cZ a_this a_now a_kept a_trial a_shelves a_tape a_paths a_sounds a_volumes a_refusals c_isKept c_refusals)) (w1 := (cells_M_refuse cI cL cZ a_this a_now a_kept a_trial a_shelves a_tape a_paths a_sounds a_volumes a_refusals c_isKept x2.2)) (ws' := (cells_M_quietest cI cL cZ a_this a_now a_kept a_trial a_shelves a_tape a_paths a_sounds a_volumes a_refusals a_now_stones a_now_kinds a_now_weights a_now_chances a_paths_steps a_paths_rest a_paths_counts a_paths_way a_paths_open a_paths_turnable a_paths_turned c_isKept c_now_width c_now_rain c_now_ear c_now_walkers c_now_seed c_now_stones c_now_kinds c_now_weights c_paths_width c_paths_steps c_paths_rest c_paths_way x2.2)) (r := x2.1) [0, 9] (fun H locs ls hP hD hS hF hz => krunV C (q0 := 0) (ci := 4) (c_M_refuse l D cI cL cZ H.size a_this a_now a_kept a_trial a_shelves a_tape a_paths a_sounds a_volumes a_refusals (-2 : Int32) c_isKept c_refusals x2 hx2) (cwV 1 C.2.2.2.2.1 (gV wq_12 wq_13 wq_14 wq_3 wq_11) rfl rfl rfl (by decide +kernel) ⟨(Nat.le_of_ble_eq_true rfl), (Nat.le_of_ble_eq_true rfl)⟩) rfl rfl kEnv_T rfl rfl (Nat.le_of_ble_eq_true rfl) dX4_quietest_19 hP hD hz) rfl (by decide) rfl rfl ?_
  obtain rfl := Option.some.inj h
  exact kret_i C rfl dX4_quietest_22
set_option maxRecDepth 100000 in
set_option maxHeartbeats 4000000 in
theorem s_M_quietest (C : kC p l e rm_M_quietest s m args below meth c D (tyG cI cL cZ) A 4 cX4_quietest yX4_quietest.cls (Cond.code yX4_quietest cX4_quietest 4 (some .int) :: WS) (some .int)) {X : kX} (hE : kEs X A s) {a_this : Nat} {a_now : Nat} {a_kept : Nat} {a_trial : Nat} {a_shelves : Nat} {a_tape : Nat} {a_paths : Nat} {a_sounds : Nat} {a_volumes : Nat} {a_refusals : Nat} {a_now_stones : Nat} {a_now_kinds : Nat} {a_now_weights : Nat} {a_now_chances : Nat} {a_paths_steps : Nat} {a_paths_rest : Nat} {a_paths_counts : Nat} {a_paths_way : Nat} {a_paths_open : Nat} {a_paths_turnable : Nat} {a_paths_turned : Nat} {v1 : Int32} {v2 : Int32} {c_isKept : Int32} {c_now_width : Int32} {c_now_rain : Int32} {c_now_ear : Int32} {c_now_walkers : Int32} {c_now_seed : Int32} {c_now_stones : (Nat → Int32)} {c_now_kinds : (Nat → Int32)} {c_now_weights : (Nat → Int32)} {c_paths_width : Int32} {c_paths_steps : (Nat → Int32)} {c_paths_rest : (Nat → Int32)} {c_paths_way : (Nat → Int32)} {c_refusals : (Nat → Int32)} {x : (Int32 × Int32 × (Nat → Int32) × (Nat → Int32) × (Nat → Int32) × (Nat → Int32))} (h : f_M_quietest v1 v2 c_now_width c_now_rain c_now_walkers c_now_stones c_now_kinds c_now_weights c_paths_width c_paths_steps c_paths_rest c_paths_way c_refusals = some x) :
    kW p l e rm_M_quietest s m args below meth c D A 4 (cells_M_quietest cI cL cZ a_this a_now a_kept a_trial a_shelves a_tape a_paths a_sounds a_volumes a_refusals a_now_stones a_now_kinds a_now_weights a_now_chances a_paths_steps a_paths_rest a_paths_counts a_paths_way a_paths_open a_paths_turnable a_paths_turned c_isKept c_now_width c_now_rain c_now_ear c_now_walkers c_now_seed c_now_stones c_now_kinds c_now_weights c_paths_width c_paths_steps c_paths_rest c_paths_way c_refusals) [(0, .ref a_this), (1, .int v1), (2, .int v2)] (MQ below (kQi D A (cells_M_quietest cI cL cZ a_this a_now a_kept a_trial a_shelves a_tape a_paths a_sounds a_volumes a_refusals a_now_stones a_now_kinds a_now_weights a_now_chances a_paths_steps a_paths_rest a_paths_counts a_paths_way a_paths_open a_paths_turnable a_paths_turned c_isKept c_now_width c_now_rain c_now_ear c_now_walkers c_now_seed c_now_stones c_now_kinds c_now_weights x.2.1 x.2.2.1 x.2.2.2.1 x.2.2.2.2.1 x.2.2.2.2.2) x.1) args s 0 0 A) 0 [] := by
  unfold f_M_quietest at h
  refine k_aload_n C dX4_quietest_0 0 rfl rfl ?_
  refine k_iload_n C dX4_quietest_1 1 rfl rfl ?_
  obtain ⟨x1, hx1, h⟩ := bindE h
  refine kcallR_i C (wc := (cells_M_isFeet cI cL cZ a_this a_now a_kept a_trial a_shelves a_tape a_paths a_sounds a_volumes a_refusals a_now_stones a_now_kinds a_now_weights a_now_chances c_isKept c_now_width c_now_rain c_now_ear c_now_walkers c_now_seed)) (r := x1) [0, 1] (fun H locs ls hP hD hS hF hz => krunV C (q0 := 0) (ci := 4) (c_M_isFeet l D cI cL cZ H.size a_this a_now a_kept a_trial a_shelves a_tape a_paths a_sounds a_volumes a_refusals a_now_stones a_now_kinds a_now_weights a_now_chances v1 c_isKept c_now_width c_now_rain c_now_ear c_now_walkers c_now_seed x1 hx1) (cwV 1 C.2.2.2.2.1 (gV wq_78 wq_79 wq_80 wq_3 wq_77) rfl rfl rfl (by decide +kernel) ⟨(Nat.le_of_ble_eq_true rfl), (Nat.le_of_ble_eq_true rfl)⟩) rfl rfl kEnv_T rfl rfl (Nat.le_of_ble_eq_true rfl) dX4_quietest_2 hP hD hz) rfl (by decide) ?_
  refine k_if_eq C (tgt := 16) dX4_quietest_5 (by decide) (fun c_5 => ?_) (fun c_5 => ?_)
  · have h := ifT c_5 h
    refine k_lv (lv' := [(0, .ref a_this)]) [0] rfl ?_
    exact s_M_quietest_j16 C hE h
  · have h := ifF c_5 h
    refine k_aload_n C dX4_quietest_8 0 rfl rfl ?_
    refine k_iload_n C dX4_quietest_9 2 rfl rfl ?_
    obtain ⟨x3, hx3, h⟩ := bindE h
    refine kcallR_i C (wc := (cells_M_isStepOrNone cI cL cZ a_this a_now a_kept a_trial a_shelves a_tape a_paths a_sounds a_volumes a_refusals a_now_stones a_now_kinds a_now_weights a_now_chances c_isKept c_now_width c_now_rain c_now_ear c_now_walkers c_now_seed)) (r := x3) [0, 1] (fun H locs ls hP hD hS hF hz => krunV C (q0 := 0) (ci := 4) (c_M_isStepOrNone l D cI cL cZ H.size a_this a_now a_kept a_trial a_shelves a_tape a_paths a_sounds a_volumes a_refusals a_now_stones a_now_kinds a_now_weights a_now_chances v2 c_isKept c_now_width c_now_rain c_now_ear c_now_walkers c_now_seed x3 hx3) (cwV 1 C.2.2.2.2.1 (gV wq_303 wq_304 wq_305 wq_3 wq_302) rfl rfl rfl (by decide +kernel) ⟨(Nat.le_of_ble_eq_true rfl), (Nat.le_of_ble_eq_true rfl)⟩) rfl rfl kEnv_T rfl rfl (Nat.le_of_ble_eq_true rfl) dX4_quietest_10 hP hD hz) rfl (by decide) ?_
    refine k_if_ne C (tgt := 23) dX4_quietest_13 (by decide) (fun c_13 => ?_) (fun c_13 => ?_)
    · have h := ifF c_13 h
      refine k_aload_n C dX4_quietest_23 0 rfl rfl ?_
      refine k_iload_n C dX4_quietest_24 1 rfl rfl ?_
      obtain ⟨x4, hx4, h⟩ := bindE h
      refine kcallU_i C (wc := (cells_M_leastOf cI cL cZ a_this a_now a_kept a_trial a_shelves a_tape a_paths a_sounds a_volumes a_refusals a_now_stones a_now_kinds a_now_weights a_now_chances a_paths_steps a_paths_rest a_paths_counts a_paths_way a_paths_open a_paths_turnable a_paths_turned c_isKept c_now_width c_now_rain c_now_ear c_now_walkers c_now_seed c_now_stones c_now_kinds c_now_weights c_paths_width c_paths_steps c_paths_rest c_paths_way)) (w1 := (cells_M_leastOf cI cL cZ a_this a_now a_kept a_trial a_shelves a_tape a_paths a_sounds a_volumes a_refusals a_now_stones a_now_kinds a_now_weights a_now_chances a_paths_steps a_paths_rest a_paths_counts a_paths_way a_paths_open a_paths_turnable a_paths_turned c_isKept c_now_width c_now_rain c_now_ear c_now_walkers c_now_seed c_now_stones c_now_kinds c_now_weights x4.2.1 x4.2.2.1 x4.2.2.2.1 x4.2.2.2.2)) (ws' := (cells_M_quietest cI cL cZ a_this a_now a_kept a_trial a_shelves a_tape a_paths a_sounds a_volumes a_refusals a_now_stones a_now_kinds a_now_weights a_now_chances a_paths_steps a_paths_rest a_paths_counts a_paths_way a_paths_open a_paths_turnable a_paths_turned c_isKept c_now_width c_now_rain c_now_ear c_now_walkers c_now_seed c_now_stones c_now_kinds c_now_weights x4.2.1 x4.2.2.1 x4.2.2.2.1 x4.2.2.2.2 c_refusals)) (r := x4.1) [0, 1, 2, 3, 4, 5, 6, 7, 8] (fun H locs ls hP hD hS hF hz => krunV C (q0 := 0) (ci := 4) (c_M_leastOf l D cI cL cZ X H.size a_this a_now a_kept a_trial a_shelves a_tape a_paths a_sounds a_volumes a_refusals a_now_stones a_now_kinds a_now_weights a_now_chances a_paths_steps a_paths_rest a_paths_counts a_paths_way a_paths_open a_paths_turnable a_paths_turned v1 c_isKept c_now_width c_now_rain c_now_ear c_now_walkers c_now_seed c_now_stones c_now_kinds c_now_weights c_paths_width c_paths_steps c_paths_rest c_paths_way x4 hx4) (cwV 1 C.2.2.2.2.1 (gV wq_307 wq_308 wq_309 wq_3 wq_306) rfl rfl rfl (by decide +kernel) ⟨(Nat.le_of_ble_eq_true rfl), (Nat.le_of_ble_eq_true rfl)⟩) rfl rfl (kEs_call hE hS hF) rfl rfl (Nat.le_of_ble_eq_true rfl) dX4_quietest_25 hP hD hz) rfl (by decide) rfl rfl ?_
      refine k_istore_n C (lv' := [(3, .int x4.1), (0, .ref a_this), (1, .int v1), (2, .int v2)]) dX4_quietest_28 rfl (by decide) rfl ?_
      refine k_iload_n C dX4_quietest_29 3 rfl rfl ?_
      refine k_iconst C (v := (-1 : Int32)) dX4_quietest_30 (by decide) ?_
      refine k_icmp_ne C (tgt := 38) dX4_quietest_31 (by decide) (fun c_31 => ?_) (fun c_31 => ?_)
      · have h := ifF c_31 h
        refine k_aload_n C dX4_quietest_38 1 rfl rfl ?_
        refine k_get C (C0 := RX4) (T := TX4) (N := 10) (fun w h => List.mem_cons_of_mem _ (us_M w h)) 0 rfl rfl 5 (by decide) (List.mem_cons_of_mem _ wq_257) rfl rfl dX4_quietest_39 ?_
        refine k_iload_n C dX4_quietest_42 3 rfl rfl ?_
        obtain ⟨x5, hx5, h⟩ := bindE h
        refine kcallR_i C (wc := (cells_P_cellOnWay cI cL cZ a_paths a_paths_steps a_paths_rest a_paths_counts a_paths_way a_paths_open a_paths_turnable a_paths_turned x4.2.1 x4.2.2.2.2)) (r := x5) [5, 8] (fun H locs ls hP hD hS hF hz => krunV C (q0 := 0) (ci := 1) (c_P_cellOnWay l D cI cL cZ X H.size a_paths a_paths_steps a_paths_rest a_paths_counts a_paths_way a_paths_open a_paths_turnable a_paths_turned v2 x4.2.1 x4.2.2.2.2 x5 hx5) (cwV 1 C.2.2.2.2.1 (gV wq_311 wq_312 wq_313 wq_267 wq_310) rfl rfl rfl (by decide +kernel) ⟨(Nat.le_of_ble_eq_true rfl), (Nat.le_of_ble_eq_true rfl)⟩) rfl rfl (kEs_call hE hS hF) rfl rfl (Nat.le_of_ble_eq_true rfl) dX4_quietest_43 hP hD hz) rfl (by decide) ?_
        obtain rfl := Option.some.inj h
        exact kret_i C rfl dX4_quietest_46
      · have h := ifT c_31 h
        refine k_iload_n C dX4_quietest_34 0 rfl rfl ?_
        refine k_goto C (tgt := 46) dX4_quietest_35 (by decide) ?_
        obtain rfl := Option.some.inj h
        exact kret_i C rfl dX4_quietest_46
    · have h := ifT c_13 h
      refine k_lv (lv' := [(0, .ref a_this)]) [0] rfl ?_
      exact s_M_quietest_j16 C hE h
theorem c_M_quietest (l : Launch) (D : va_G) (cI : ClassId) (cL : ClassId) (cZ : ClassId) (X : kX) (sz : Nat) (a_this : Nat) (a_now : Nat) (a_kept : Nat) (a_trial : Nat) (a_shelves : Nat) (a_tape : Nat) (a_paths : Nat) (a_sounds : Nat) (a_volumes : Nat) (a_refusals : Nat) (a_now_stones : Nat) (a_now_kinds : Nat) (a_now_weights : Nat) (a_now_chances : Nat) (a_paths_steps : Nat) (a_paths_rest : Nat) (a_paths_counts : Nat) (a_paths_way : Nat) (a_paths_open : Nat) (a_paths_turnable : Nat) (a_paths_turned : Nat) (v1 : Int32) (v2 : Int32) (c_isKept : Int32) (c_now_width : Int32) (c_now_rain : Int32) (c_now_ear : Int32) (c_now_walkers : Int32) (c_now_seed : Int32) (c_now_stones : (Nat → Int32)) (c_now_kinds : (Nat → Int32)) (c_now_weights : (Nat → Int32)) (c_paths_width : Int32) (c_paths_steps : (Nat → Int32)) (c_paths_rest : (Nat → Int32)) (c_paths_way : (Nat → Int32)) (c_refusals : (Nat → Int32)) (x : (Int32 × Int32 × (Nat → Int32) × (Nat → Int32) × (Nat → Int32) × (Nat → Int32))) (h : f_M_quietest v1 v2 c_now_width c_now_rain c_now_walkers c_now_stones c_now_kinds c_now_weights c_paths_width c_paths_steps c_paths_rest c_paths_way c_refusals = some x) :
    Met l yX4_quietest (Cond.code yX4_quietest cX4_quietest 4 (some .int) :: WS) rm_M_quietest (kP D (tyG cI cL cZ) (kEs X (va_A (cells_M_quietest cI cL cZ a_this a_now a_kept a_trial a_shelves a_tape a_paths a_sounds a_volumes a_refusals a_now_stones a_now_kinds a_now_weights a_now_chances a_paths_steps a_paths_rest a_paths_counts a_paths_way a_paths_open a_paths_turnable a_paths_turned c_isKept c_now_width c_now_rain c_now_ear c_now_walkers c_now_seed c_now_stones c_now_kinds c_now_weights c_paths_width c_paths_steps c_paths_rest c_paths_way c_refusals) sz)) [.ref a_this, .int v1, .int v2] sz (cells_M_quietest cI cL cZ a_this a_now a_kept a_trial a_shelves a_tape a_paths a_sounds a_volumes a_refusals a_now_stones a_now_kinds a_now_weights a_now_chances a_paths_steps a_paths_rest a_paths_counts a_paths_way a_paths_open a_paths_turnable a_paths_turned c_isKept c_now_width c_now_rain c_now_ear c_now_walkers c_now_seed c_now_stones c_now_kinds c_now_weights c_paths_width c_paths_steps c_paths_rest c_paths_way c_refusals)) (kQi D (va_A (cells_M_quietest cI cL cZ a_this a_now a_kept a_trial a_shelves a_tape a_paths a_sounds a_volumes a_refusals a_now_stones a_now_kinds a_now_weights a_now_chances a_paths_steps a_paths_rest a_paths_counts a_paths_way a_paths_open a_paths_turnable a_paths_turned c_isKept c_now_width c_now_rain c_now_ear c_now_walkers c_now_seed c_now_stones c_now_kinds c_now_weights c_paths_width c_paths_steps c_paths_rest c_paths_way c_refusals) sz) (cells_M_quietest cI cL cZ a_this a_now a_kept a_trial a_shelves a_tape a_paths a_sounds a_volumes a_refusals a_now_stones a_now_kinds a_now_weights a_now_chances a_paths_steps a_paths_rest a_paths_counts a_paths_way a_paths_open a_paths_turnable a_paths_turned c_isKept c_now_width c_now_rain c_now_ear c_now_walkers c_now_seed c_now_stones c_now_kinds c_now_weights x.2.1 x.2.2.1 x.2.2.2.1 x.2.2.2.2.1 x.2.2.2.2.2) x.1) 0 0 (va_A (cells_M_quietest cI cL cZ a_this a_now a_kept a_trial a_shelves a_tape a_paths a_sounds a_volumes a_refusals a_now_stones a_now_kinds a_now_weights a_now_chances a_paths_steps a_paths_rest a_paths_counts a_paths_way a_paths_open a_paths_turnable a_paths_turned c_isKept c_now_width c_now_rain c_now_ear c_now_walkers c_now_seed c_now_stones c_now_kinds c_now_weights c_paths_width c_paths_steps c_paths_rest c_paths_way c_refusals) sz) :=
  kmet (by decide) (Nat.le_of_ble_eq_true rfl) rfl (fun p e s m below meth c C hE => s_M_quietest C hE h)
abbrev cells_P_leastGreatest (cI : ClassId) (cL : ClassId) (cZ : ClassId) (a_this : Nat) (a_steps : Nat) (a_rest : Nat) (a_counts : Nat) (a_way : Nat) (a_open : Nat) (a_turnable : Nat) (a_turned : Nat) (c_width : Int32) (c_steps : (Nat → Int32)) (c_rest : (Nat → Int32)) (c_way : (Nat → Int32)) : va_W := [(a_this, .inr (1, [.ref a_steps, .ref a_rest, .ref a_counts, .ref a_way, .ref a_open, .ref a_turnable, .ref a_turned, .int c_width])), (a_steps, .inl (cI, 36, .inl c_steps)), (a_rest, .inl (cI, 36, .inl c_rest)), (a_way, .inl (cI, 6, .inl c_way))]
abbrev rm_P_leastGreatest : Room := { frames := 4, cells := 0, slots := 0, locals := 103 }
set_option maxRecDepth 100000 in
set_option maxHeartbeats 4000000 in
theorem s_P_leastGreatest_b13 (C : kC p l e rm_P_leastGreatest s m args below meth c D (tyG cI cL cZ) A 4 cX1_leastGreatest yX1_leastGreatest.cls (Cond.code yX1_leastGreatest cX1_leastGreatest 4 (some .int) :: WS) (some .int)) {X : kX} (hE : kEs X A s) {a_this : Nat} {a_steps : Nat} {a_rest : Nat} {a_counts : Nat} {a_way : Nat} {a_open : Nat} {a_turnable : Nat} {a_turned : Nat} {v1 : Int32} {v2 : Int32} {c_width : Int32} {c_steps : (Nat → Int32)} {c_rest : (Nat → Int32)} {c_way : (Nat → Int32)} {x : ((Int32 × (Nat → Int32)) ⊕ (Nat → Int32))} (h : f_P_leastGreatest_b13 v1 c_width c_steps v2 c_rest = some x)
    (kc : ∀ s', x = .inl s' → kW p l e rm_P_leastGreatest s m args below meth c D A 4 (cells_P_leastGreatest cI cL cZ a_this a_steps a_rest a_counts a_way a_open a_turnable a_turned c_width c_steps s'.2 c_way) [(0, .ref a_this), (1, .int v1), (2, .int s'.1)] Q 13 [])
    (k0 : ∀ r, x = .inr r → kW p l e rm_P_leastGreatest s m args below meth c D A 4 (cells_P_leastGreatest cI cL cZ a_this a_steps a_rest a_counts a_way a_open a_turnable a_turned c_width c_steps r c_way) [(0, .ref a_this), (1, .int v1)] Q 55 []) :
    kW p l e rm_P_leastGreatest s m args below meth c D A 4 (cells_P_leastGreatest cI cL cZ a_this a_steps a_rest a_counts a_way a_open a_turnable a_turned c_width c_steps c_rest c_way) [(0, .ref a_this), (1, .int v1), (2, .int v2)] Q 13 [] := by
  unfold f_P_leastGreatest_b13 at h
  refine k_iload_n C dX1_leastGreatest_13 2 rfl rfl ?_
  refine k_aload_n C dX1_leastGreatest_14 0 rfl rfl ?_
  obtain ⟨x2, hx2, h⟩ := bindE h
  refine kcallR_i C (wc := (cells_P_length cI cL cZ a_this a_steps a_rest a_counts a_way a_open a_turnable a_turned c_width)) (r := x2) [0] (fun H locs ls hP hD hS hF hz => krunV C (q0 := 0) (ci := 1) (c_P_length l D cI cL cZ H.size a_this a_steps a_rest a_counts a_way a_open a_turnable a_turned c_width x2 hx2) (cwV 0 C.2.2.2.2.1 (gV wq_271 wq_272 wq_273 wq_267 wq_270) rfl rfl rfl (by decide +kernel) ⟨(Nat.le_of_ble_eq_true rfl), (Nat.le_of_ble_eq_true rfl)⟩) rfl rfl kEnv_T rfl rfl (Nat.le_of_ble_eq_true rfl) dX1_leastGreatest_15 hP hD hz) rfl (by decide) ?_
  refine k_icmp_ge C (tgt := 55) dX1_leastGreatest_18 (by decide) (fun c_18 => ?_) (fun c_18 => ?_)
  · have h := ifT c_18 h
    refine k_lv (lv' := [(0, .ref a_this), (1, .int v1)]) [0, 1] rfl ?_
    exact k0 _ (Option.some.inj h).symm
  · have h := ifF c_18 h
    refine k_aload_n C dX1_leastGreatest_21 0 rfl rfl ?_
    refine k_iload_n C dX1_leastGreatest_22 1 rfl rfl ?_
    refine k_iload_n C dX1_leastGreatest_23 2 rfl rfl ?_
    obtain ⟨x3, hx3, h⟩ := bindE h
    refine kcallR_i C (wc := (cells_P_cellIn cI cL cZ a_this a_steps a_rest a_counts a_way a_open a_turnable a_turned c_width)) (r := x3) [0] (fun H locs ls hP hD hS hF hz => krunV C (q0 := 0) (ci := 1) (c_P_cellIn l D cI cL cZ X H.size a_this a_steps a_rest a_counts a_way a_open a_turnable a_turned v1 v2 c_width x3 hx3) (cwV 2 C.2.2.2.2.1 (gV wq_278 wq_279 wq_280 wq_267 wq_277) rfl rfl rfl (by decide +kernel) ⟨(Nat.le_of_ble_eq_true rfl), (Nat.le_of_ble_eq_true rfl)⟩) rfl rfl (kEs_call hE hS hF) rfl rfl (Nat.le_of_ble_eq_true rfl) dX1_leastGreatest_24 hP hD hz) rfl (by decide) ?_
    refine k_istore_n C (lv' := [(3, .int x3), (0, .ref a_this), (1, .int v1), (2, .int v2)]) dX1_leastGreatest_27 rfl (by decide) rfl ?_
    refine k_aload_n C dX1_leastGreatest_28 1 rfl rfl ?_
    refine k_get C (C0 := RX1) (T := TX1) (N := 8) (fun w h => List.mem_cons_of_mem _ (us_P w h)) 0 rfl rfl 1 (by decide) (List.mem_cons_of_mem _ wq_276) rfl rfl dX1_leastGreatest_29 ?_
    refine k_iload_n C dX1_leastGreatest_32 0 rfl rfl ?_
    refine k_aload_n C dX1_leastGreatest_33 1 rfl rfl ?_
    refine k_get C (C0 := RX1) (T := TX1) (N := 8) (fun w h => List.mem_cons_of_mem _ (us_P w h)) 0 rfl rfl 0 (by decide) (List.mem_cons_of_mem _ wq_256) rfl rfl dX1_leastGreatest_34 ?_
    refine k_iload_n C dX1_leastGreatest_37 0 rfl rfl ?_
    obtain ⟨x4, hx4, h⟩ := bindE h
    refine k_iald C 1 0 rfl rfl hx4 dX1_leastGreatest_38 ?_
    refine k_aload_n C dX1_leastGreatest_39 1 rfl rfl ?_
    refine k_iload_n C dX1_leastGreatest_40 2 rfl rfl ?_
    refine k_iload_n C dX1_leastGreatest_41 3 rfl rfl ?_
    obtain ⟨x5, hx5, h⟩ := bindE h
    refine kcallR_i C (wc := (cells_P_leastBehind cI cL cZ a_this a_steps a_rest a_counts a_way a_open a_turnable a_turned c_width c_rest)) (r := x5) [0, 2] (fun H locs ls hP hD hS hF hz => krunV C (q0 := 0) (ci := 1) (c_P_leastBehind l D cI cL cZ X H.size a_this a_steps a_rest a_counts a_way a_open a_turnable a_turned v1 v2 c_width c_rest x5 hx5) (cwV 2 C.2.2.2.2.1 (gV wq_283 wq_284 wq_285 wq_267 wq_282) rfl rfl rfl (by decide +kernel) ⟨(Nat.le_of_ble_eq_true rfl), (Nat.le_of_ble_eq_true rfl)⟩) rfl rfl (kEs_call hE hS hF) rfl rfl (Nat.le_of_ble_eq_true rfl) dX1_leastGreatest_42 hP hD hz) rfl (by decide) ?_
    refine k_mmax C (List.mem_cons_of_mem _ wq_275) (List.mem_cons_of_mem _ wq_91) (List.mem_cons_of_mem _ wq_65) (List.mem_cons_of_mem _ wq_92) (Nat.le_of_ble_eq_true rfl) (Nat.le_of_ble_eq_true rfl) dX1_leastGreatest_45 ?_
    obtain ⟨x6, hx6, h⟩ := bindE h
    refine k_iast C 2 0 (ws' := (cells_P_leastGreatest cI cL cZ a_this a_steps a_rest a_counts a_way a_open a_turnable a_turned c_width c_steps x6 c_way)) rfl rfl hx6 rfl dX1_leastGreatest_48 ?_
    refine k_iinc C (v := (v2 + (1 : Int32))) (lv' := [(2, .int (v2 + (1 : Int32))), (3, .int x3), (0, .ref a_this), (1, .int v1)]) dX1_leastGreatest_49 3 rfl rfl (by decide) rfl ?_
    refine k_goto C (tgt := 13) dX1_leastGreatest_52 (by decide) ?_
    refine k_lv (lv' := [(0, .ref a_this), (1, .int v1), (2, .int (v2 + (1 : Int32)))]) [2, 3, 0] rfl ?_
    exact kc _ (Option.some.inj h).symm
set_option maxRecDepth 100000 in
set_option maxHeartbeats 4000000 in
theorem s_P_leastGreatest_l13 (C : kC p l e rm_P_leastGreatest s m args below meth c D (tyG cI cL cZ) A 4 cX1_leastGreatest yX1_leastGreatest.cls (Cond.code yX1_leastGreatest cX1_leastGreatest 4 (some .int) :: WS) (some .int)) {X : kX} (hE : kEs X A s) {a_this : Nat} {a_steps : Nat} {a_rest : Nat} {a_counts : Nat} {a_way : Nat} {a_open : Nat} {a_turnable : Nat} {a_turned : Nat} {v1 : Int32} {v2 : Int32} {c_width : Int32} {c_steps : (Nat → Int32)} {c_rest : (Nat → Int32)} {c_way : (Nat → Int32)} {x : (Nat → Int32)} (h : f_P_leastGreatest_l13 v1 c_width c_steps v2 c_rest = some x)
    (k0 : kW p l e rm_P_leastGreatest s m args below meth c D A 4 (cells_P_leastGreatest cI cL cZ a_this a_steps a_rest a_counts a_way a_open a_turnable a_turned c_width c_steps x c_way) [(0, .ref a_this), (1, .int v1)] Q 55 []) :
    kW p l e rm_P_leastGreatest s m args below meth c D A 4 (cells_P_leastGreatest cI cL cZ a_this a_steps a_rest a_counts a_way a_open a_turnable a_turned c_width c_steps c_rest c_way) [(0, .ref a_this), (1, .int v1), (2, .int v2)] Q 13 [] := by
  unfold f_P_leastGreatest_l13 at h
  exact iter_W (body := fun s => f_P_leastGreatest_b13 v1 c_width c_steps s.1 s.2) (r := x) (T := fun sg => kW p l e rm_P_leastGreatest s m args below meth c D A 4 (cells_P_leastGreatest cI cL cZ a_this a_steps a_rest a_counts a_way a_open a_turnable a_turned c_width c_steps sg.2 c_way) [(0, .ref a_this), (1, .int v1), (2, .int sg.1)] Q 13 []) (fun sg y hy hc _ hr => s_P_leastGreatest_b13 C hE (v1 := v1) (v2 := sg.1) (c_width := c_width) (c_steps := c_steps) (c_rest := sg.2) (c_way := c_way) (x := y) hy hc (fun r e => by rw [hr r e]; exact k0)) FUEL (v2, c_rest) h
set_option maxRecDepth 100000 in
set_option maxHeartbeats 4000000 in
theorem s_P_leastGreatest_b7 (C : kC p l e rm_P_leastGreatest s m args below meth c D (tyG cI cL cZ) A 4 cX1_leastGreatest yX1_leastGreatest.cls (Cond.code yX1_leastGreatest cX1_leastGreatest 4 (some .int) :: WS) (some .int)) {X : kX} (hE : kEs X A s) {a_this : Nat} {a_steps : Nat} {a_rest : Nat} {a_counts : Nat} {a_way : Nat} {a_open : Nat} {a_turnable : Nat} {a_turned : Nat} {v1 : Int32} {c_width : Int32} {c_steps : (Nat → Int32)} {c_rest : (Nat → Int32)} {c_way : (Nat → Int32)} {x : ((Int32 × (Nat → Int32)) ⊕ (Nat → Int32))} (h : f_P_leastGreatest_b7 c_width c_steps v1 c_rest = some x)
    (kc : ∀ s', x = .inl s' → kW p l e rm_P_leastGreatest s m args below meth c D A 4 (cells_P_leastGreatest cI cL cZ a_this a_steps a_rest a_counts a_way a_open a_turnable a_turned c_width c_steps s'.2 c_way) [(0, .ref a_this), (1, .int s'.1)] Q 7 [])
    (k0 : ∀ r, x = .inr r → kW p l e rm_P_leastGreatest s m args below meth c D A 4 (cells_P_leastGreatest cI cL cZ a_this a_steps a_rest a_counts a_way a_open a_turnable a_turned c_width c_steps r c_way) [(0, .ref a_this)] Q 61 []) :
    kW p l e rm_P_leastGreatest s m args below meth c D A 4 (cells_P_leastGreatest cI cL cZ a_this a_steps a_rest a_counts a_way a_open a_turnable a_turned c_width c_steps c_rest c_way) [(0, .ref a_this), (1, .int v1)] Q 7 [] := by
  unfold f_P_leastGreatest_b7 at h
  refine k_iload_n C dX1_leastGreatest_7 1 rfl rfl ?_
  refine k_if_lt C (tgt := 61) dX1_leastGreatest_8 (by decide) (fun c_8 => ?_) (fun c_8 => ?_)
  · have h := ifT c_8 h
    refine k_lv (lv' := [(0, .ref a_this)]) [0] rfl ?_
    exact k0 _ (Option.some.inj h).symm
  · have h := ifF c_8 h
    refine k_iconst C (v := (0 : Int32)) dX1_leastGreatest_11 (by decide) ?_
    refine k_istore_n C (lv' := [(2, .int (0 : Int32)), (0, .ref a_this), (1, .int v1)]) dX1_leastGreatest_12 rfl (by decide) rfl ?_
    obtain ⟨x7, hx7, h⟩ := bindE h
    refine k_lv (lv' := [(0, .ref a_this), (1, .int v1), (2, .int (0 : Int32))]) [1, 2, 0] rfl ?_
    refine s_P_leastGreatest_l13 C hE hx7 ?_
    refine k_iinc C (v := (v1 + (-1 : Int32))) (lv' := [(1, .int (v1 + (-1 : Int32))), (0, .ref a_this)]) dX1_leastGreatest_55 1 rfl rfl (by decide) rfl ?_
    refine k_goto C (tgt := 7) dX1_leastGreatest_58 (by decide) ?_
    refine k_lv (lv' := [(0, .ref a_this), (1, .int (v1 + (-1 : Int32)))]) [1, 0] rfl ?_
    exact kc _ (Option.some.inj h).symm
set_option maxRecDepth 100000 in
set_option maxHeartbeats 4000000 in
theorem s_P_leastGreatest_l7 (C : kC p l e rm_P_leastGreatest s m args below meth c D (tyG cI cL cZ) A 4 cX1_leastGreatest yX1_leastGreatest.cls (Cond.code yX1_leastGreatest cX1_leastGreatest 4 (some .int) :: WS) (some .int)) {X : kX} (hE : kEs X A s) {a_this : Nat} {a_steps : Nat} {a_rest : Nat} {a_counts : Nat} {a_way : Nat} {a_open : Nat} {a_turnable : Nat} {a_turned : Nat} {v1 : Int32} {c_width : Int32} {c_steps : (Nat → Int32)} {c_rest : (Nat → Int32)} {c_way : (Nat → Int32)} {x : (Nat → Int32)} (h : f_P_leastGreatest_l7 c_width c_steps v1 c_rest = some x)
    (k0 : kW p l e rm_P_leastGreatest s m args below meth c D A 4 (cells_P_leastGreatest cI cL cZ a_this a_steps a_rest a_counts a_way a_open a_turnable a_turned c_width c_steps x c_way) [(0, .ref a_this)] Q 61 []) :
    kW p l e rm_P_leastGreatest s m args below meth c D A 4 (cells_P_leastGreatest cI cL cZ a_this a_steps a_rest a_counts a_way a_open a_turnable a_turned c_width c_steps c_rest c_way) [(0, .ref a_this), (1, .int v1)] Q 7 [] := by
  unfold f_P_leastGreatest_l7 at h
  exact iter_W (body := fun s => f_P_leastGreatest_b7 c_width c_steps s.1 s.2) (r := x) (T := fun sg => kW p l e rm_P_leastGreatest s m args below meth c D A 4 (cells_P_leastGreatest cI cL cZ a_this a_steps a_rest a_counts a_way a_open a_turnable a_turned c_width c_steps sg.2 c_way) [(0, .ref a_this), (1, .int sg.1)] Q 7 []) (fun sg y hy hc _ hr => s_P_leastGreatest_b7 C hE (v1 := sg.1) (c_width := c_width) (c_steps := c_steps) (c_rest := sg.2) (c_way := c_way) (x := y) hy hc (fun r e => by rw [hr r e]; exact k0)) FUEL (v1, c_rest) h
set_option maxRecDepth 100000 in
set_option maxHeartbeats 4000000 in
theorem s_P_leastGreatest (C : kC p l e rm_P_leastGreatest s m args below meth c D (tyG cI cL cZ) A 4 cX1_leastGreatest yX1_leastGreatest.cls (Cond.code yX1_leastGreatest cX1_leastGreatest 4 (some .int) :: WS) (some .int)) {X : kX} (hE : kEs X A s) {a_this : Nat} {a_steps : Nat} {a_rest : Nat} {a_counts : Nat} {a_way : Nat} {a_open : Nat} {a_turnable : Nat} {a_turned : Nat} {c_width : Int32} {c_steps : (Nat → Int32)} {c_rest : (Nat → Int32)} {c_way : (Nat → Int32)} {x : (Int32 × (Nat → Int32) × (Nat → Int32))} (h : f_P_leastGreatest c_width c_steps c_rest c_way = some x) :
    kW p l e rm_P_leastGreatest s m args below meth c D A 4 (cells_P_leastGreatest cI cL cZ a_this a_steps a_rest a_counts a_way a_open a_turnable a_turned c_width c_steps c_rest c_way) [(0, .ref a_this)] (MQ below (kQi D A (cells_P_leastGreatest cI cL cZ a_this a_steps a_rest a_counts a_way a_open a_turnable a_turned c_width c_steps x.2.1 x.2.2) x.1) args s 0 0 A) 0 [] := by
  unfold f_P_leastGreatest at h
  refine k_aload_n C dX1_leastGreatest_0 0 rfl rfl ?_
  obtain ⟨x1, hx1, h⟩ := bindE h
  refine kcallR_i C (wc := (cells_P_length cI cL cZ a_this a_steps a_rest a_counts a_way a_open a_turnable a_turned c_width)) (r := x1) [0] (fun H locs ls hP hD hS hF hz => krunV C (q0 := 0) (ci := 1) (c_P_length l D cI cL cZ H.size a_this a_steps a_rest a_counts a_way a_open a_turnable a_turned c_width x1 hx1) (cwV 0 C.2.2.2.2.1 (gV wq_271 wq_272 wq_273 wq_267 wq_270) rfl rfl rfl (by decide +kernel) ⟨(Nat.le_of_ble_eq_true rfl), (Nat.le_of_ble_eq_true rfl)⟩) rfl rfl kEnv_T rfl rfl (Nat.le_of_ble_eq_true rfl) dX1_leastGreatest_1 hP hD hz) rfl (by decide) ?_
  refine k_iconst C (v := (1 : Int32)) dX1_leastGreatest_4 (by decide) ?_
  refine k_isub C dX1_leastGreatest_5 ?_
  refine k_istore_n C (lv' := [(1, .int (x1 - (1 : Int32))), (0, .ref a_this)]) dX1_leastGreatest_6 rfl (by decide) rfl ?_
  obtain ⟨x8, hx8, h⟩ := bindE h
  refine k_lv (lv' := [(0, .ref a_this), (1, .int (x1 - (1 : Int32)))]) [1, 0] rfl ?_
  refine s_P_leastGreatest_l7 C hE hx8 ?_
  refine k_aload_n C dX1_leastGreatest_61 0 rfl rfl ?_
  obtain ⟨x9, hx9, h⟩ := bindE h
  refine kcallR_i C (wc := (cells_P_leastAtGate cI cL cZ a_this a_steps a_rest a_counts a_way a_open a_turnable a_turned c_width x8)) (r := x9) [0, 2] (fun H locs ls hP hD hS hF hz => krunV C (q0 := 0) (ci := 1) (c_P_leastAtGate l D cI cL cZ X H.size a_this a_steps a_rest a_counts a_way a_open a_turnable a_turned c_width x8 x9 hx9) (cwV 0 C.2.2.2.2.1 (gV wq_287 wq_288 wq_289 wq_267 wq_286) rfl rfl rfl (by decide +kernel) ⟨(Nat.le_of_ble_eq_true rfl), (Nat.le_of_ble_eq_true rfl)⟩) rfl rfl (kEs_call hE hS hF) rfl rfl (Nat.le_of_ble_eq_true rfl) dX1_leastGreatest_62 hP hD hz) rfl (by decide) ?_
  refine k_istore_n C (lv' := [(1, .int x9), (0, .ref a_this)]) dX1_leastGreatest_65 rfl (by decide) rfl ?_
  refine k_aload_n C dX1_leastGreatest_66 1 rfl rfl ?_
  refine k_iload_n C dX1_leastGreatest_67 0 rfl rfl ?_
  refine k_iconst C (v := (0 : Int32)) dX1_leastGreatest_68 (by decide) ?_
  obtain ⟨x10, hx10, h⟩ := bindE h
  refine kcallU_v C (wc := (cells_P_keepFirst cI cL cZ a_this a_steps a_rest a_counts a_way a_open a_turnable a_turned c_width c_steps x8 c_way)) (w1 := (cells_P_keepFirst cI cL cZ a_this a_steps a_rest a_counts a_way a_open a_turnable a_turned c_width c_steps x8 x10)) (ws' := (cells_P_leastGreatest cI cL cZ a_this a_steps a_rest a_counts a_way a_open a_turnable a_turned c_width c_steps x8 x10)) [0, 1, 2, 3] (fun H locs ls hP hD hS hF hz => krunV C (q0 := 0) (ci := 1) (c_P_keepFirst l D cI cL cZ X H.size a_this a_steps a_rest a_counts a_way a_open a_turnable a_turned x9 (0 : Int32) c_width c_steps x8 c_way x10 hx10) (cwV 2 C.2.2.2.2.1 (gV wq_291 wq_292 wq_293 wq_267 wq_290) rfl rfl rfl (by decide +kernel) ⟨(Nat.le_of_ble_eq_true rfl), (Nat.le_of_ble_eq_true rfl)⟩) rfl rfl (kEs_call hE hS hF) rfl rfl (Nat.le_of_ble_eq_true rfl) dX1_leastGreatest_69 hP hD hz) rfl (by decide) rfl rfl ?_
  refine k_iload_n C dX1_leastGreatest_72 0 rfl rfl ?_
  obtain rfl := Option.some.inj h
  exact kret_i C rfl dX1_leastGreatest_73
theorem c_P_leastGreatest (l : Launch) (D : va_G) (cI : ClassId) (cL : ClassId) (cZ : ClassId) (X : kX) (sz : Nat) (a_this : Nat) (a_steps : Nat) (a_rest : Nat) (a_counts : Nat) (a_way : Nat) (a_open : Nat) (a_turnable : Nat) (a_turned : Nat) (c_width : Int32) (c_steps : (Nat → Int32)) (c_rest : (Nat → Int32)) (c_way : (Nat → Int32)) (x : (Int32 × (Nat → Int32) × (Nat → Int32))) (h : f_P_leastGreatest c_width c_steps c_rest c_way = some x) :
    Met l yX1_leastGreatest (Cond.code yX1_leastGreatest cX1_leastGreatest 4 (some .int) :: WS) rm_P_leastGreatest (kP D (tyG cI cL cZ) (kEs X (va_A (cells_P_leastGreatest cI cL cZ a_this a_steps a_rest a_counts a_way a_open a_turnable a_turned c_width c_steps c_rest c_way) sz)) [.ref a_this] sz (cells_P_leastGreatest cI cL cZ a_this a_steps a_rest a_counts a_way a_open a_turnable a_turned c_width c_steps c_rest c_way)) (kQi D (va_A (cells_P_leastGreatest cI cL cZ a_this a_steps a_rest a_counts a_way a_open a_turnable a_turned c_width c_steps c_rest c_way) sz) (cells_P_leastGreatest cI cL cZ a_this a_steps a_rest a_counts a_way a_open a_turnable a_turned c_width c_steps x.2.1 x.2.2) x.1) 0 0 (va_A (cells_P_leastGreatest cI cL cZ a_this a_steps a_rest a_counts a_way a_open a_turnable a_turned c_width c_steps c_rest c_way) sz) :=
  kmet (by decide) (Nat.le_of_ble_eq_true rfl) rfl (fun p e s m below meth c C hE => s_P_leastGreatest C hE h)

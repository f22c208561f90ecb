variable {p : Program} {l : Launch} {e : Env} {s : State} {m : MethodId} {args : Array Value} {below : List Frame} {meth : Method} {c : Code} {D : va_G} {A : Nat → Prop} {cI cL cZ : ClassId} {Q : State → Prop}
abbrev cells_M_isShelf (cI : ClassId) (cL : ClassId) (cZ : ClassId) : va_W := []
abbrev rm_M_isShelf : Room := { frames := 0, cells := 0, slots := 0, locals := 0 }
set_option maxRecDepth 100000 in
set_option maxHeartbeats 4000000 in
theorem s_M_isShelf (C : kC p l e rm_M_isShelf s m args below meth c D (tyG cI cL cZ) A 1 cX4_isShelf yX4_isShelf.cls (Cond.code yX4_isShelf cX4_isShelf 1 (some .boolean) :: WS) (some .boolean)) {v0 : Int32} {x : Int32} (h : f_M_isShelf v0 = some x) :
    kW p l e rm_M_isShelf s m args below meth c D A 1 (cells_M_isShelf cI cL cZ) [(0, .int v0)] (MQ below (kQi D A (cells_M_isShelf cI cL cZ) x) args s 0 0 A) 0 [] := by
  unfold f_M_isShelf at h
  refine k_iload_n C dX4_isShelf_0 0 rfl rfl ?_
  refine k_if_lt C (tgt := 14) dX4_isShelf_1 (by decide) (fun c_1 => ?_) (fun c_1 => ?_)
  · have h := ifT c_1 h
    refine k_iconst C (v := (0 : Int32)) dX4_isShelf_14 (by decide) ?_
    obtain rfl := Option.some.inj h
    exact kret_z C rfl nz0 dX4_isShelf_15
  · have h := ifF c_1 h
    refine k_iload_n C dX4_isShelf_4 0 rfl rfl ?_
    refine k_bipush C (v := (8 : Int32)) dX4_isShelf_5 (by decide) ?_
    refine k_icmp_ge C (tgt := 14) dX4_isShelf_7 (by decide) (fun c_7 => ?_) (fun c_7 => ?_)
    · have h := ifT c_7 h
      refine k_iconst C (v := (0 : Int32)) dX4_isShelf_14 (by decide) ?_
      obtain rfl := Option.some.inj h
      exact kret_z C rfl nz0 dX4_isShelf_15
    · have h := ifF c_7 h
      refine k_iconst C (v := (1 : Int32)) dX4_isShelf_10 (by decide) ?_
      refine k_goto C (tgt := 15) dX4_isShelf_11 (by decide) ?_
      obtain rfl := Option.some.inj h
      exact kret_z C rfl nz1 dX4_isShelf_15
theorem c_M_isShelf (l : Launch) (D : va_G) (cI : ClassId) (cL : ClassId) (cZ : ClassId) (sz : Nat) (v0 : Int32) (x : Int32) (h : f_M_isShelf v0 = some x) :
    Met l yX4_isShelf (Cond.code yX4_isShelf cX4_isShelf 1 (some .boolean) :: WS) rm_M_isShelf (kP D (tyG cI cL cZ) kTrue [.int v0] sz (cells_M_isShelf cI cL cZ)) (kQi D (va_A (cells_M_isShelf cI cL cZ) sz) (cells_M_isShelf cI cL cZ) x) 0 0 (va_A (cells_M_isShelf cI cL cZ) sz) :=
  kmet (by decide) (Nat.le_of_ble_eq_true rfl) rfl (fun p e s m below meth c C hE => s_M_isShelf C h)
abbrev cells_M_isWithin (cI : ClassId) (cL : ClassId) (cZ : ClassId) : va_W := []
abbrev rm_M_isWithin : Room := { frames := 0, cells := 0, slots := 0, locals := 0 }
set_option maxRecDepth 100000 in
set_option maxHeartbeats 4000000 in
theorem s_M_isWithin (C : kC p l e rm_M_isWithin s m args below meth c D (tyG cI cL cZ) A 3 cX4_isWithin yX4_isWithin.cls (Cond.code yX4_isWithin cX4_isWithin 3 (some .boolean) :: WS) (some .boolean)) {v0 : Int32} {v1 : Int32} {v2 : Int32} {x : Int32} (h : f_M_isWithin v0 v1 v2 = some x) :
    kW p l e rm_M_isWithin s m args below meth c D A 3 (cells_M_isWithin cI cL cZ) [(0, .int v0), (1, .int v1), (2, .int v2)] (MQ below (kQi D A (cells_M_isWithin cI cL cZ) x) args s 0 0 A) 0 [] := by
  unfold f_M_isWithin at h
  refine k_iload_n C dX4_isWithin_0 0 rfl rfl ?_
  refine k_iload_n C dX4_isWithin_1 1 rfl rfl ?_
  refine k_icmp_lt C (tgt := 14) dX4_isWithin_2 (by decide) (fun c_2 => ?_) (fun c_2 => ?_)
  · have h := ifT c_2 h
    refine k_iconst C (v := (0 : Int32)) dX4_isWithin_14 (by decide) ?_
    obtain rfl := Option.some.inj h
    exact kret_z C rfl nz0 dX4_isWithin_15
  · have h := ifF c_2 h
    refine k_iload_n C dX4_isWithin_5 0 rfl rfl ?_
    refine k_iload_n C dX4_isWithin_6 2 rfl rfl ?_
    refine k_icmp_gt C (tgt := 14) dX4_isWithin_7 (by decide) (fun c_7 => ?_) (fun c_7 => ?_)
    · have h := ifT c_7 h
      refine k_iconst C (v := (0 : Int32)) dX4_isWithin_14 (by decide) ?_
      obtain rfl := Option.some.inj h
      exact kret_z C rfl nz0 dX4_isWithin_15
    · have h := ifF c_7 h
      refine k_iconst C (v := (1 : Int32)) dX4_isWithin_10 (by decide) ?_
      refine k_goto C (tgt := 15) dX4_isWithin_11 (by decide) ?_
      obtain rfl := Option.some.inj h
      exact kret_z C rfl nz1 dX4_isWithin_15
theorem c_M_isWithin (l : Launch) (D : va_G) (cI : ClassId) (cL : ClassId) (cZ : ClassId) (sz : Nat) (v0 : Int32) (v1 : Int32) (v2 : Int32) (x : Int32) (h : f_M_isWithin v0 v1 v2 = some x) :
    Met l yX4_isWithin (Cond.code yX4_isWithin cX4_isWithin 3 (some .boolean) :: WS) rm_M_isWithin (kP D (tyG cI cL cZ) kTrue [.int v0, .int v1, .int v2] sz (cells_M_isWithin cI cL cZ)) (kQi D (va_A (cells_M_isWithin cI cL cZ) sz) (cells_M_isWithin cI cL cZ) x) 0 0 (va_A (cells_M_isWithin cI cL cZ) sz) :=
  kmet (by decide) (Nat.le_of_ble_eq_true rfl) rfl (fun p e s m below meth c C hE => s_M_isWithin C h)
abbrev cells_M_refuse (cI : ClassId) (cL : ClassId) (cZ : ClassId) (a_this : Nat) (a_now : Nat) (a_kept : Nat) (a_trial : Nat) (a_shelves : Nat) (a_tape : Nat) (a_paths : Nat) (a_sounds : Nat) (a_volumes : Nat) (a_refusals : Nat) (c_isKept : Int32) (c_refusals : (Nat → Int32)) : va_W := [(a_this, .inr (4, [.ref a_now, .ref a_kept, .ref a_trial, .ref a_shelves, .ref a_tape, .ref a_paths, .ref a_sounds, .ref a_volumes, .ref a_refusals, .int c_isKept])), (a_refusals, .inl (cI, 5, .inl c_refusals))]
abbrev rm_M_refuse : Room := { frames := 1, cells := 0, slots := 0, locals := 22 }
set_option maxRecDepth 100000 in
set_option maxHeartbeats 4000000 in
theorem s_M_refuse (C : kC p l e rm_M_refuse s m args below meth c D (tyG cI cL cZ) A 3 cX4_refuse yX4_refuse.cls (Cond.code yX4_refuse cX4_refuse 3 (some .int) :: WS) (some .int)) {a_this : Nat} {a_now : Nat} {a_kept : Nat} {a_trial : Nat} {a_shelves : Nat} {a_tape : Nat} {a_paths : Nat} {a_sounds : Nat} {a_volumes : Nat} {a_refusals : Nat} {v1 : Int32} {c_isKept : Int32} {c_refusals : (Nat → Int32)} {x : (Int32 × (Nat → Int32))} (h : f_M_refuse v1 c_refusals = some x) :
    kW p l e rm_M_refuse s m args below meth c D A 3 (cells_M_refuse cI cL cZ a_this a_now a_kept a_trial a_shelves a_tape a_paths a_sounds a_volumes a_refusals c_isKept c_refusals) [(0, .ref a_this), (1, .int v1)] (MQ below (kQi D A (cells_M_refuse cI cL cZ a_this a_now a_kept a_trial a_shelves a_tape a_paths a_sounds a_volumes a_refusals c_isKept x.2) x.1) args s 0 0 A) 0 [] := by
  unfold f_M_refuse at h
  refine k_bipush C (v := (-2 : Int32)) dX4_refuse_0 (by decide) ?_
  refine k_iload_n C dX4_refuse_2 1 rfl rfl ?_
  refine k_isub C dX4_refuse_3 ?_
  refine k_istore_n C (lv' := [(2, .int ((-2 : Int32) - v1)), (0, .ref a_this), (1, .int v1)]) dX4_refuse_4 rfl (by decide) rfl ?_
  refine k_iload_n C dX4_refuse_5 0 rfl rfl ?_
  refine k_iconst C (v := (0 : Int32)) dX4_refuse_6 (by decide) ?_
  refine k_iconst C (v := (4 : Int32)) dX4_refuse_7 (by decide) ?_
  obtain ⟨x1, hx1, h⟩ := bindE h
  refine kcallE_i C (r := x1) (fun H locs ls hP hD hS hF hz => krunS C (c_M_isWithin l D cI cL cZ H.size ((-2 : Int32) - v1) (0 : Int32) (4 : Int32) x1 hx1) (va_cwS 3 C.2.2.2.2.1 (gS wq_1 wq_2 wq_3 wq_0) rfl rfl rfl (by decide +kernel) ⟨(Nat.le_of_ble_eq_true rfl), (Nat.le_of_ble_eq_true rfl)⟩) kEnv_T rfl rfl (Nat.le_of_ble_eq_true rfl) dX4_refuse_8 hP hD hz) ?_
  refine k_if_eq C (tgt := 24) dX4_refuse_11 (by decide) (fun c_11 => ?_) (fun c_11 => ?_)
  · have h := ifT c_11 h
    refine k_iload_n C dX4_refuse_24 2 rfl rfl ?_
    obtain rfl := Option.some.inj h
    exact kret_i C rfl dX4_refuse_25
  · have h := ifF c_11 h
    refine k_aload_n C dX4_refuse_14 1 rfl rfl ?_
    refine k_get C (C0 := RX4) (T := TX4) (N := 10) (fun w h => List.mem_cons_of_mem _ (us_M w h)) 0 rfl rfl 8 (by decide) (List.mem_cons_of_mem _ wq_4) rfl rfl dX4_refuse_15 ?_
    refine k_iload_n C dX4_refuse_18 0 rfl rfl ?_
    refine k_dup2_11 C dX4_refuse_19 rfl rfl ?_
    obtain ⟨x2, hx2, h⟩ := bindE h
    refine k_iald C 1 0 rfl rfl hx2 dX4_refuse_20 ?_
    refine k_iconst C (v := (1 : Int32)) dX4_refuse_21 (by decide) ?_
    refine k_iadd C dX4_refuse_22 ?_
    obtain ⟨x3, hx3, h⟩ := bindE h
    refine k_iast C 1 0 (ws' := (cells_M_refuse cI cL cZ a_this a_now a_kept a_trial a_shelves a_tape a_paths a_sounds a_volumes a_refusals c_isKept x3)) rfl rfl hx3 rfl dX4_refuse_23 ?_
    refine k_iload_n C dX4_refuse_24 2 rfl rfl ?_
    obtain rfl := Option.some.inj h
    exact kret_i C rfl dX4_refuse_25
theorem c_M_refuse (l : Launch) (D : va_G) (cI : ClassId) (cL : ClassId) (cZ : ClassId) (sz : Nat) (a_this : Nat) (a_now : Nat) (a_kept : Nat) (a_trial : Nat) (a_shelves : Nat) (a_tape : Nat) (a_paths : Nat) (a_sounds : Nat) (a_volumes : Nat) (a_refusals : Nat) (v1 : Int32) (c_isKept : Int32) (c_refusals : (Nat → Int32)) (x : (Int32 × (Nat → Int32))) (h : f_M_refuse v1 c_refusals = some x) :
    Met l yX4_refuse (Cond.code yX4_refuse cX4_refuse 3 (some .int) :: WS) rm_M_refuse (kP D (tyG cI cL cZ) kTrue [.ref a_this, .int v1] sz (cells_M_refuse cI cL cZ a_this a_now a_kept a_trial a_shelves a_tape a_paths a_sounds a_volumes a_refusals c_isKept c_refusals)) (kQi D (va_A (cells_M_refuse cI cL cZ a_this a_now a_kept a_trial a_shelves a_tape a_paths a_sounds a_volumes a_refusals c_isKept c_refusals) sz) (cells_M_refuse cI cL cZ a_this a_now a_kept a_trial a_shelves a_tape a_paths a_sounds a_volumes a_refusals c_isKept x.2) x.1) 0 0 (va_A (cells_M_refuse cI cL cZ a_this a_now a_kept a_trial a_shelves a_tape a_paths a_sounds a_volumes a_refusals c_isKept c_refusals) sz) :=
  kmet (by decide) (Nat.le_of_ble_eq_true rfl) rfl (fun p e s m below meth c C hE => s_M_refuse C h)
abbrev cells_S_layRow (cI : ClassId) (cL : ClassId) (cZ : ClassId) (a_this : Nat) (a_marks : Nat) (a_sizes : Nat) (a_elements : Nat) (c_marks : (Nat → Int32)) (c_sizes : (Nat → Int32)) (c_elements : (Nat → Int64)) : va_W := [(a_this, .inr (2, [.ref a_marks, .ref a_sizes, .ref a_elements])), (a_marks, .inl (cI, 8, .inl c_marks)), (a_sizes, .inl (cI, 8, .inl c_sizes)), (a_elements, .inl (cL, 320, .inr (.inl c_elements)))]
abbrev rm_S_layRow : Room := { frames := 1, cells := 0, slots := 0, locals := 22 }
set_option maxRecDepth 100000 in
set_option maxHeartbeats 4000000 in
theorem s_S_layRow_b35 (C : kC p l e rm_S_layRow s m args below meth c D (tyG cI cL cZ) A 5 cX2_layRow yX2_layRow.cls (Cond.code yX2_layRow cX2_layRow 5 none :: WS) none) {X : kX} (hE : kEs X A s) {a_this : Nat} {a_marks : Nat} {a_sizes : Nat} {a_elements : Nat} {v1 : Int32} {v3 : Int32} {v4 : Int32} {c_marks : (Nat → Int32)} {c_sizes : (Nat → Int32)} {c_elements : (Nat → Int64)} {x : ((Int32 × (Nat → Int64)) ⊕ (Nat → Int64))} (h : f_S_layRow_b35 v1 v3 v4 c_elements = some x)
    (kc : ∀ s', x = .inl s' → kW p l e rm_S_layRow s m args below meth c D A 5 (cells_S_layRow cI cL cZ a_this a_marks a_sizes a_elements c_marks c_sizes s'.2) [(0, .ref a_this), (1, .int v1), (3, .int v3), (4, .int s'.1)] Q 35 [])
    (k0 : ∀ r, x = .inr r → kW p l e rm_S_layRow s m args below meth c D A 5 (cells_S_layRow cI cL cZ a_this a_marks a_sizes a_elements c_marks c_sizes r) [] Q 60 []) :
    kW p l e rm_S_layRow s m args below meth c D A 5 (cells_S_layRow cI cL cZ a_this a_marks a_sizes a_elements c_marks c_sizes c_elements) [(0, .ref a_this), (1, .int v1), (3, .int v3), (4, .int v4)] Q 35 [] := by
  unfold f_S_layRow_b35 at h
  refine k_iload C dX2_layRow_35 3 rfl ?_
  refine k_iload_n C dX2_layRow_37 2 rfl rfl ?_
  refine k_icmp_ge C (tgt := 60) dX2_layRow_38 (by decide) (fun c_38 => ?_) (fun c_38 => ?_)
  · have h := ifT c_38 h
    refine k_lv (lv' := []) [] rfl ?_
    exact k0 _ (Option.some.inj h).symm
  · have h := ifF c_38 h
    refine k_aload_n C dX2_layRow_41 0 rfl rfl ?_
    refine k_get C (C0 := RX2) (T := TX2) (N := 3) (fun w h => List.mem_cons_of_mem _ (us_S w h)) 0 rfl rfl 2 (by decide) (List.mem_cons_of_mem _ wq_9) rfl rfl dX2_layRow_42 ?_
    refine k_iload_n C dX2_layRow_45 1 rfl rfl ?_
    refine k_bipush C (v := (40 : Int32)) dX2_layRow_46 (by decide) ?_
    refine k_imul C dX2_layRow_48 ?_
    refine k_iload C dX2_layRow_49 3 rfl ?_
    refine k_iadd C dX2_layRow_51 ?_
    refine k_lconst C (v := (0 : Int64)) dX2_layRow_52 (by decide) ?_
    obtain ⟨x5, hx5, h⟩ := bindE h
    refine k_last C 3 1 (ws' := (cells_S_layRow cI cL cZ a_this a_marks a_sizes a_elements c_marks c_sizes x5)) rfl rfl hx5 rfl dX2_layRow_53 ?_
    refine k_iinc C (v := (v4 + (1 : Int32))) (lv' := [(4, .int (v4 + (1 : Int32))), (0, .ref a_this), (1, .int v1), (3, .int v3)]) dX2_layRow_54 3 rfl rfl (by decide) rfl ?_
    refine k_goto C (tgt := 35) dX2_layRow_57 (by decide) ?_
    refine k_lv (lv' := [(0, .ref a_this), (1, .int v1), (3, .int v3), (4, .int (v4 + (1 : Int32)))]) [1, 2, 3, 0] rfl ?_
    exact kc _ (Option.some.inj h).symm
set_option maxRecDepth 100000 in
set_option maxHeartbeats 4000000 in
theorem s_S_layRow_l35 (C : kC p l e rm_S_layRow s m args below meth c D (tyG cI cL cZ) A 5 cX2_layRow yX2_layRow.cls (Cond.code yX2_layRow cX2_layRow 5 none :: WS) none) {X : kX} (hE : kEs X A s) {a_this : Nat} {a_marks : Nat} {a_sizes : Nat} {a_elements : Nat} {v1 : Int32} {v3 : Int32} {v4 : Int32} {c_marks : (Nat → Int32)} {c_sizes : (Nat → Int32)} {c_elements : (Nat → Int64)} {x : (Nat → Int64)} (h : f_S_layRow_l35 v1 v3 v4 c_elements = some x)
    (k0 : kW p l e rm_S_layRow s m args below meth c D A 5 (cells_S_layRow cI cL cZ a_this a_marks a_sizes a_elements c_marks c_sizes x) [] Q 60 []) :
    kW p l e rm_S_layRow s m args below meth c D A 5 (cells_S_layRow cI cL cZ a_this a_marks a_sizes a_elements c_marks c_sizes c_elements) [(0, .ref a_this), (1, .int v1), (3, .int v3), (4, .int v4)] Q 35 [] := by
  unfold f_S_layRow_l35 at h
  exact iter_W (body := fun s => f_S_layRow_b35 v1 v3 s.1 s.2) (r := x) (T := fun sg => kW p l e rm_S_layRow s m args below meth c D A 5 (cells_S_layRow cI cL cZ a_this a_marks a_sizes a_elements c_marks c_sizes sg.2) [(0, .ref a_this), (1, .int v1), (3, .int v3), (4, .int sg.1)] Q 35 []) (fun sg y hy hc _ hr => s_S_layRow_b35 C hE (v1 := v1) (v3 := v3) (v4 := sg.1) (c_marks := c_marks) (c_sizes := c_sizes) (c_elements := sg.2) (x := y) hy hc (fun r e => by rw [hr r e]; exact k0)) FUEL (v4, c_elements) h
set_option maxRecDepth 100000 in
set_option maxHeartbeats 4000000 in
theorem s_S_layRow (C : kC p l e rm_S_layRow s m args below meth c D (tyG cI cL cZ) A 5 cX2_layRow yX2_layRow.cls (Cond.code yX2_layRow cX2_layRow 5 none :: WS) none) {X : kX} (hE : kEs X A s) {a_this : Nat} {a_marks : Nat} {a_sizes : Nat} {a_elements : Nat} {v1 : Int32} {v2 : Int32} {v3 : Int32} {c_marks : (Nat → Int32)} {c_sizes : (Nat → Int32)} {c_elements : (Nat → Int64)} {x : ((Nat → Int32) × (Nat → Int32) × (Nat → Int64))} (h : f_S_layRow v1 v2 v3 c_marks c_sizes c_elements = some x) :
    kW p l e rm_S_layRow s m args below meth c D A 5 (cells_S_layRow cI cL cZ a_this a_marks a_sizes a_elements c_marks c_sizes c_elements) [(0, .ref a_this), (1, .int v1), (2, .int v2), (3, .int v3)] (MQ below (kQv D A (cells_S_layRow cI cL cZ a_this a_marks a_sizes a_elements x.1 x.2.1 x.2.2)) args s 0 0 A) 0 [] := by
  unfold f_S_layRow at h
  refine k_iload_n C dX2_layRow_0 1 rfl rfl ?_
  obtain ⟨x1, hx1, h⟩ := bindE h
  refine kcallE_i C (r := x1) (fun H locs ls hP hD hS hF hz => krunSN C (c_M_isShelf l D cI cL cZ H.size v1 x1 hx1) ⟨va_cnB 1 C.2.2.2.2.1 (gW wq_5) rfl rfl rfl (hE.2.2.2.2.2.2.2 (RX2, 22, yX4_isShelf) (by decide +kernel)) (C.2.2.2.2.1 _ (List.mem_cons_of_mem _ wq_3)) (by decide +kernel) ⟨(Nat.le_of_ble_eq_true rfl), (Nat.le_of_ble_eq_true rfl)⟩, C.2.2.2.2.1 _ (List.mem_cons_of_mem _ wq_6), trivial⟩ kEnv_T rfl rfl (Nat.le_of_ble_eq_true rfl) dX2_layRow_1 hP hD hz) ?_
  refine k_if_eq C (tgt := 17) dX2_layRow_4 (by decide) (fun c_4 => ?_) (fun c_4 => ?_)
  · have h := ifT c_4 h
    obtain rfl := Option.some.inj h
    exact kret_v C rfl dX2_layRow_17
  · have h := ifF c_4 h
    refine k_iload_n C dX2_layRow_7 3 rfl rfl ?_
    refine k_iconst C (v := (0 : Int32)) dX2_layRow_8 (by decide) ?_
    refine k_bipush C (v := (40 : Int32)) dX2_layRow_9 (by decide) ?_
    obtain ⟨x2, hx2, h⟩ := bindE h
    refine kcallE_i C (r := x2) (fun H locs ls hP hD hS hF hz => krunSN C (c_M_isWithin l D cI cL cZ H.size v3 (0 : Int32) (40 : Int32) x2 hx2) ⟨va_cnB 3 C.2.2.2.2.1 (gW wq_0) rfl rfl rfl (hE.2.2.2.2.2.2.2 (RX2, 33, yX4_isWithin) (by decide +kernel)) (C.2.2.2.2.1 _ (List.mem_cons_of_mem _ wq_3)) (by decide +kernel) ⟨(Nat.le_of_ble_eq_true rfl), (Nat.le_of_ble_eq_true rfl)⟩, C.2.2.2.2.1 _ (List.mem_cons_of_mem _ wq_2), trivial⟩ kEnv_T rfl rfl (Nat.le_of_ble_eq_true rfl) dX2_layRow_11 hP hD hz) ?_
    refine k_if_ne C (tgt := 18) dX2_layRow_14 (by decide) (fun c_14 => ?_) (fun c_14 => ?_)
    · have h := ifF c_14 h
      refine k_aload_n C dX2_layRow_18 0 rfl rfl ?_
      refine k_get C (C0 := RX2) (T := TX2) (N := 3) (fun w h => List.mem_cons_of_mem _ (us_S w h)) 0 rfl rfl 0 (by decide) (List.mem_cons_of_mem _ wq_7) rfl rfl dX2_layRow_19 ?_
      refine k_iload_n C dX2_layRow_22 1 rfl rfl ?_
      refine k_iload_n C dX2_layRow_23 2 rfl rfl ?_
      obtain ⟨x3, hx3, h⟩ := bindE h
      refine k_iast C 1 0 (ws' := (cells_S_layRow cI cL cZ a_this a_marks a_sizes a_elements x3 c_sizes c_elements)) rfl rfl hx3 rfl dX2_layRow_24 ?_
      refine k_aload_n C dX2_layRow_25 0 rfl rfl ?_
      refine k_get C (C0 := RX2) (T := TX2) (N := 3) (fun w h => List.mem_cons_of_mem _ (us_S w h)) 0 rfl rfl 1 (by decide) (List.mem_cons_of_mem _ wq_8) rfl rfl dX2_layRow_26 ?_
      refine k_iload_n C dX2_layRow_29 1 rfl rfl ?_
      refine k_iload_n C dX2_layRow_30 3 rfl rfl ?_
      obtain ⟨x4, hx4, h⟩ := bindE h
      refine k_iast C 2 0 (ws' := (cells_S_layRow cI cL cZ a_this a_marks a_sizes a_elements x3 x4 c_elements)) rfl rfl hx4 rfl dX2_layRow_31 ?_
      refine k_iconst C (v := (0 : Int32)) dX2_layRow_32 (by decide) ?_
      refine k_istore C (lv' := [(4, .int (0 : Int32)), (0, .ref a_this), (1, .int v1), (2, .int v2), (3, .int v3)]) dX2_layRow_33 (by decide) rfl ?_
      obtain ⟨x6, hx6, h⟩ := bindE h
      refine k_lv (lv' := [(0, .ref a_this), (1, .int v1), (3, .int v3), (4, .int (0 : Int32))]) [1, 2, 4, 0] rfl ?_
      refine s_S_layRow_l35 C hE hx6 ?_
      obtain rfl := Option.some.inj h
      exact kret_v C rfl dX2_layRow_60
    · have h := ifT c_14 h
      obtain rfl := Option.some.inj h
      exact kret_v C rfl dX2_layRow_17
theorem c_S_layRow (l : Launch) (D : va_G) (cI : ClassId) (cL : ClassId) (cZ : ClassId) (X : kX) (sz : Nat) (a_this : Nat) (a_marks : Nat) (a_sizes : Nat) (a_elements : Nat) (v1 : Int32) (v2 : Int32) (v3 : Int32) (c_marks : (Nat → Int32)) (c_sizes : (Nat → Int32)) (c_elements : (Nat → Int64)) (x : ((Nat → Int32) × (Nat → Int32) × (Nat → Int64))) (h : f_S_layRow v1 v2 v3 c_marks c_sizes c_elements = some x) :
    Met l yX2_layRow (Cond.code yX2_layRow cX2_layRow 5 none :: WS) rm_S_layRow (kP D (tyG cI cL cZ) (kEs X (va_A (cells_S_layRow cI cL cZ a_this a_marks a_sizes a_elements c_marks c_sizes c_elements) sz)) [.ref a_this, .int v1, .int v2, .int v3] sz (cells_S_layRow cI cL cZ a_this a_marks a_sizes a_elements c_marks c_sizes c_elements)) (kQv D (va_A (cells_S_layRow cI cL cZ a_this a_marks a_sizes a_elements c_marks c_sizes c_elements) sz) (cells_S_layRow cI cL cZ a_this a_marks a_sizes a_elements x.1 x.2.1 x.2.2)) 0 0 (va_A (cells_S_layRow cI cL cZ a_this a_marks a_sizes a_elements c_marks c_sizes c_elements) sz) :=
  kmet (by decide) (Nat.le_of_ble_eq_true rfl) rfl (fun p e s m below meth c C hE => s_S_layRow C hE h)
abbrev cells_M_row (cI : ClassId) (cL : ClassId) (cZ : ClassId) (a_this : Nat) (a_now : Nat) (a_kept : Nat) (a_trial : Nat) (a_shelves : Nat) (a_tape : Nat) (a_paths : Nat) (a_sounds : Nat) (a_volumes : Nat) (a_refusals : Nat) (a_shelves_marks : Nat) (a_shelves_sizes : Nat) (a_shelves_elements : Nat) (c_isKept : Int32) (c_shelves_marks : (Nat → Int32)) (c_shelves_sizes : (Nat → Int32)) (c_shelves_elements : (Nat → Int64)) (c_refusals : (Nat → Int32)) : va_W := [(a_this, .inr (4, [.ref a_now, .ref a_kept, .ref a_trial, .ref a_shelves, .ref a_tape, .ref a_paths, .ref a_sounds, .ref a_volumes, .ref a_refusals, .int c_isKept])), (a_shelves, .inr (2, [.ref a_shelves_marks, .ref a_shelves_sizes, .ref a_shelves_elements])), (a_shelves_marks, .inl (cI, 8, .inl c_shelves_marks)), (a_shelves_sizes, .inl (cI, 8, .inl c_shelves_sizes)), (a_shelves_elements, .inl (cL, 320, .inr (.inl c_shelves_elements))), (a_refusals, .inl (cI, 5, .inl c_refusals))]
abbrev rm_M_row : Room := { frames := 2, cells := 0, slots := 0, locals := 46 }
set_option maxRecDepth 100000 in
set_option maxHeartbeats 4000000 in
theorem s_M_row_j26 (C : kC p l e rm_M_row s m args below meth c D (tyG cI cL cZ) A 4 cX4_row yX4_row.cls (Cond.code yX4_row cX4_row 4 (some .int) :: WS) (some .int)) {X : kX} (hE : kEs X A s) {a_this : Nat} {a_now : Nat} {a_kept : Nat} {a_trial : Nat} {a_shelves : Nat} {a_tape : Nat} {a_paths : Nat} {a_sounds : Nat} {a_volumes : Nat} {a_refusals : Nat} {a_shelves_marks : Nat} {a_shelves_sizes : Nat} {a_shelves_elements : Nat} {c_isKept : Int32} {c_shelves_marks : (Nat → Int32)} {c_shelves_sizes : (Nat → Int32)} {c_shelves_elements : (Nat → Int64)} {c_refusals : (Nat → Int32)} {x : (Int32 × (Nat → Int32) × (Nat → Int32) × (Nat → Int64) × (Nat → Int32))} (h : f_M_row_j26 c_shelves_marks c_shelves_sizes c_shelves_elements c_refusals = some x) :
    kW p l e rm_M_row s m args below meth c D A 4 (cells_M_row cI cL cZ a_this a_now a_kept a_trial a_shelves a_tape a_paths a_sounds a_volumes a_refusals a_shelves_marks a_shelves_sizes a_shelves_elements c_isKept c_shelves_marks c_shelves_sizes c_shelves_elements c_refusals) [(0, .ref a_this)] (MQ below (kQi D A (cells_M_row cI cL cZ a_this a_now a_kept a_trial a_shelves a_tape a_paths a_sounds a_volumes a_refusals a_shelves_marks a_shelves_sizes a_shelves_elements c_isKept x.2.1 x.2.2.1 x.2.2.2.1 x.2.2.2.2) x.1) args s 0 0 A) 26 [] := by
  unfold f_M_row_j26 at h
  refine k_aload_n C dX4_row_26 0 rfl rfl ?_
  refine k_bipush C (v := (-2 : Int32)) dX4_row_27 (by decide) ?_
  obtain ⟨x2, hx2, h⟩ := bindE h
  refine kcallU_i C (wc := (cells_M_refuse cI cL cZ a_this a_now a_kept a_trial a_shelves a_tape a_paths a_sounds a_volumes a_refusals c_isKept c_refusals)) (w1 := (cells_M_refuse cI cL cZ a_this a_now a_kept a_trial a_shelves a_tape a_paths a_sounds a_volumes a_refusals c_isKept x2.2)) (ws' := (cells_M_row cI cL cZ a_this a_now a_kept a_trial a_shelves a_tape a_paths a_sounds a_volumes a_refusals a_shelves_marks a_shelves_sizes a_shelves_elements c_isKept c_shelves_marks c_shelves_sizes c_shelves_elements x2.2)) (r := x2.1) [0, 5] (fun H locs ls hP hD hS hF hz => krunV C (q0 := 0) (ci := 4) (c_M_refuse l D cI cL cZ H.size a_this a_now a_kept a_trial a_shelves a_tape a_paths a_sounds a_volumes a_refusals (-2 : Int32) c_isKept c_refusals x2 hx2) (cwV 1 C.2.2.2.2.1 (gV wq_12 wq_13 wq_14 wq_3 wq_11) rfl rfl rfl (by decide +kernel) ⟨(Nat.le_of_ble_eq_true rfl), (Nat.le_of_ble_eq_true rfl)⟩) rfl rfl kEnv_T rfl rfl (Nat.le_of_ble_eq_true rfl) dX4_row_29 hP hD hz) rfl (by decide) rfl rfl ?_
  obtain rfl := Option.some.inj h
  exact kret_i C rfl dX4_row_32
set_option maxRecDepth 100000 in
set_option maxHeartbeats 4000000 in
theorem s_M_row (C : kC p l e rm_M_row s m args below meth c D (tyG cI cL cZ) A 4 cX4_row yX4_row.cls (Cond.code yX4_row cX4_row 4 (some .int) :: WS) (some .int)) {X : kX} (hE : kEs X A s) {a_this : Nat} {a_now : Nat} {a_kept : Nat} {a_trial : Nat} {a_shelves : Nat} {a_tape : Nat} {a_paths : Nat} {a_sounds : Nat} {a_volumes : Nat} {a_refusals : Nat} {a_shelves_marks : Nat} {a_shelves_sizes : Nat} {a_shelves_elements : Nat} {v1 : Int32} {v2 : Int32} {v3 : Int32} {c_isKept : Int32} {c_shelves_marks : (Nat → Int32)} {c_shelves_sizes : (Nat → Int32)} {c_shelves_elements : (Nat → Int64)} {c_refusals : (Nat → Int32)} {x : (Int32 × (Nat → Int32) × (Nat → Int32) × (Nat → Int64) × (Nat → Int32))} (h : f_M_row v1 v2 v3 c_shelves_marks c_shelves_sizes c_shelves_elements c_refusals = some x) :
    kW p l e rm_M_row s m args below meth c D A 4 (cells_M_row cI cL cZ a_this a_now a_kept a_trial a_shelves a_tape a_paths a_sounds a_volumes a_refusals a_shelves_marks a_shelves_sizes a_shelves_elements c_isKept c_shelves_marks c_shelves_sizes c_shelves_elements c_refusals) [(0, .ref a_this), (1, .int v1), (2, .int v2), (3, .int v3)] (MQ below (kQi D A (cells_M_row cI cL cZ a_this a_now a_kept a_trial a_shelves a_tape a_paths a_sounds a_volumes a_refusals a_shelves_marks a_shelves_sizes a_shelves_elements c_isKept x.2.1 x.2.2.1 x.2.2.2.1 x.2.2.2.2) x.1) args s 0 0 A) 0 [] := by
  unfold f_M_row at h
  refine k_iload_n C dX4_row_0 1 rfl rfl ?_
  obtain ⟨x1, hx1, h⟩ := bindE h
  refine kcallE_i C (r := x1) (fun H locs ls hP hD hS hF hz => krunS C (c_M_isShelf l D cI cL cZ H.size v1 x1 hx1) (va_cwS 1 C.2.2.2.2.1 (gS wq_10 wq_6 wq_3 wq_5) rfl rfl rfl (by decide +kernel) ⟨(Nat.le_of_ble_eq_true rfl), (Nat.le_of_ble_eq_true rfl)⟩) kEnv_T rfl rfl (Nat.le_of_ble_eq_true rfl) dX4_row_1 hP hD hz) ?_
  refine k_if_eq C (tgt := 26) dX4_row_4 (by decide) (fun c_4 => ?_) (fun c_4 => ?_)
  · have h := ifT c_4 h
    refine k_lv (lv' := [(0, .ref a_this)]) [0] rfl ?_
    exact s_M_row_j26 C hE h
  · have h := ifF c_4 h
    refine k_iload_n C dX4_row_7 2 rfl rfl ?_
    refine k_iconst C (v := (0 : Int32)) dX4_row_8 (by decide) ?_
    refine k_iconst C (v := (4 : Int32)) dX4_row_9 (by decide) ?_
    obtain ⟨x3, hx3, h⟩ := bindE h
    refine kcallE_i C (r := x3) (fun H locs ls hP hD hS hF hz => krunS C (c_M_isWithin l D cI cL cZ H.size v2 (0 : Int32) (4 : Int32) x3 hx3) (va_cwS 3 C.2.2.2.2.1 (gS wq_1 wq_2 wq_3 wq_0) rfl rfl rfl (by decide +kernel) ⟨(Nat.le_of_ble_eq_true rfl), (Nat.le_of_ble_eq_true rfl)⟩) kEnv_T rfl rfl (Nat.le_of_ble_eq_true rfl) dX4_row_10 hP hD hz) ?_
    refine k_if_eq C (tgt := 26) dX4_row_13 (by decide) (fun c_13 => ?_) (fun c_13 => ?_)
    · have h := ifT c_13 h
      refine k_lv (lv' := [(0, .ref a_this)]) [0] rfl ?_
      exact s_M_row_j26 C hE h
    · have h := ifF c_13 h
      refine k_iload_n C dX4_row_16 3 rfl rfl ?_
      refine k_iconst C (v := (0 : Int32)) dX4_row_17 (by decide) ?_
      refine k_bipush C (v := (40 : Int32)) dX4_row_18 (by decide) ?_
      obtain ⟨x4, hx4, h⟩ := bindE h
      refine kcallE_i C (r := x4) (fun H locs ls hP hD hS hF hz => krunS C (c_M_isWithin l D cI cL cZ H.size v3 (0 : Int32) (40 : Int32) x4 hx4) (va_cwS 3 C.2.2.2.2.1 (gS wq_1 wq_2 wq_3 wq_0) rfl rfl rfl (by decide +kernel) ⟨(Nat.le_of_ble_eq_true rfl), (Nat.le_of_ble_eq_true rfl)⟩) kEnv_T rfl rfl (Nat.le_of_ble_eq_true rfl) dX4_row_20 hP hD hz) ?_
      refine k_if_ne C (tgt := 33) dX4_row_23 (by decide) (fun c_23 => ?_) (fun c_23 => ?_)
      · have h := ifF c_23 h
        refine k_aload_n C dX4_row_33 0 rfl rfl ?_
        refine k_get C (C0 := RX4) (T := TX4) (N := 10) (fun w h => List.mem_cons_of_mem _ (us_M w h)) 0 rfl rfl 3 (by decide) (List.mem_cons_of_mem _ wq_15) rfl rfl dX4_row_34 ?_
        refine k_iload_n C dX4_row_37 1 rfl rfl ?_
        refine k_iload_n C dX4_row_38 2 rfl rfl ?_
        refine k_iload_n C dX4_row_39 3 rfl rfl ?_
        obtain ⟨x5, hx5, h⟩ := bindE h
        refine kcallU_v C (wc := (cells_S_layRow cI cL cZ a_shelves a_shelves_marks a_shelves_sizes a_shelves_elements c_shelves_marks c_shelves_sizes c_shelves_elements)) (w1 := (cells_S_layRow cI cL cZ a_shelves a_shelves_marks a_shelves_sizes a_shelves_elements x5.1 x5.2.1 x5.2.2)) (ws' := (cells_M_row cI cL cZ a_this a_now a_kept a_trial a_shelves a_tape a_paths a_sounds a_volumes a_refusals a_shelves_marks a_shelves_sizes a_shelves_elements c_isKept x5.1 x5.2.1 x5.2.2 c_refusals)) [1, 2, 3, 4] (fun H locs ls hP hD hS hF hz => krunV C (q0 := 0) (ci := 2) (c_S_layRow l D cI cL cZ X H.size a_shelves a_shelves_marks a_shelves_sizes a_shelves_elements v1 v2 v3 c_shelves_marks c_shelves_sizes c_shelves_elements x5 hx5) (cwV 3 C.2.2.2.2.1 (gV wq_17 wq_18 wq_19 wq_20 wq_16) rfl rfl rfl (by decide +kernel) ⟨(Nat.le_of_ble_eq_true rfl), (Nat.le_of_ble_eq_true rfl)⟩) rfl rfl (kEs_call hE hS hF) rfl rfl (Nat.le_of_ble_eq_true rfl) dX4_row_40 hP hD hz) rfl (by decide) rfl rfl ?_
        refine k_iconst C (v := (1 : Int32)) dX4_row_43 (by decide) ?_
        obtain rfl := Option.some.inj h
        exact kret_i C rfl dX4_row_44
      · have h := ifT c_23 h
        refine k_lv (lv' := [(0, .ref a_this)]) [0] rfl ?_
        exact s_M_row_j26 C hE h
theorem c_M_row (l : Launch) (D : va_G) (cI : ClassId) (cL : ClassId) (cZ : ClassId) (X : kX) (sz : Nat) (a_this : Nat) (a_now : Nat) (a_kept : Nat) (a_trial : Nat) (a_shelves : Nat) (a_tape : Nat) (a_paths : Nat) (a_sounds : Nat) (a_volumes : Nat) (a_refusals : Nat) (a_shelves_marks : Nat) (a_shelves_sizes : Nat) (a_shelves_elements : Nat) (v1 : Int32) (v2 : Int32) (v3 : Int32) (c_isKept : Int32) (c_shelves_marks : (Nat → Int32)) (c_shelves_sizes : (Nat → Int32)) (c_shelves_elements : (Nat → Int64)) (c_refusals : (Nat → Int32)) (x : (Int32 × (Nat → Int32) × (Nat → Int32) × (Nat → Int64) × (Nat → Int32))) (h : f_M_row v1 v2 v3 c_shelves_marks c_shelves_sizes c_shelves_elements c_refusals = some x) :
    Met l yX4_row (Cond.code yX4_row cX4_row 4 (some .int) :: WS) rm_M_row (kP D (tyG cI cL cZ) (kEs X (va_A (cells_M_row cI cL cZ a_this a_now a_kept a_trial a_shelves a_tape a_paths a_sounds a_volumes a_refusals a_shelves_marks a_shelves_sizes a_shelves_elements c_isKept c_shelves_marks c_shelves_sizes c_shelves_elements c_refusals) sz)) [.ref a_this, .int v1, .int v2, .int v3] sz (cells_M_row cI cL cZ a_this a_now a_kept a_trial a_shelves a_tape a_paths a_sounds a_volumes a_refusals a_shelves_marks a_shelves_sizes a_shelves_elements c_isKept c_shelves_marks c_shelves_sizes c_shelves_elements c_refusals)) (kQi D (va_A (cells_M_row cI cL cZ a_this a_now a_kept a_trial a_shelves a_tape a_paths a_sounds a_volumes a_refusals a_shelves_marks a_shelves_sizes a_shelves_elements c_isKept c_shelves_marks c_shelves_sizes c_shelves_elements c_refusals) sz) (cells_M_row cI cL cZ a_this a_now a_kept a_trial a_shelves a_tape a_paths a_sounds a_volumes a_refusals a_shelves_marks a_shelves_sizes a_shelves_elements c_isKept x.2.1 x.2.2.1 x.2.2.2.1 x.2.2.2.2) x.1) 0 0 (va_A (cells_M_row cI cL cZ a_this a_now a_kept a_trial a_shelves a_tape a_paths a_sounds a_volumes a_refusals a_shelves_marks a_shelves_sizes a_shelves_elements c_isKept c_shelves_marks c_shelves_sizes c_shelves_elements c_refusals) sz) :=
  kmet (by decide) (Nat.le_of_ble_eq_true rfl) rfl (fun p e s m below meth c C hE => s_M_row C hE h)
abbrev cells_S_heldBy (cI : ClassId) (cL : ClassId) (cZ : ClassId) (a_this : Nat) (a_marks : Nat) (a_sizes : Nat) (a_elements : Nat) (c_marks : (Nat → Int32)) : va_W := [(a_this, .inr (2, [.ref a_marks, .ref a_sizes, .ref a_elements])), (a_marks, .inl (cI, 8, .inl c_marks))]
abbrev rm_S_heldBy : Room := { frames := 1, cells := 0, slots := 0, locals := 20 }
set_option maxRecDepth 100000 in
set_option maxHeartbeats 4000000 in
theorem s_S_heldBy (C : kC p l e rm_S_heldBy s m args below meth c D (tyG cI cL cZ) A 2 cX2_heldBy yX2_heldBy.cls (Cond.code yX2_heldBy cX2_heldBy 2 (some .int) :: WS) (some .int)) {X : kX} (hE : kEs X A s) {a_this : Nat} {a_marks : Nat} {a_sizes : Nat} {a_elements : Nat} {v1 : Int32} {c_marks : (Nat → Int32)} {x : Int32} (h : f_S_heldBy v1 c_marks = some x) :
    kW p l e rm_S_heldBy s m args below meth c D A 2 (cells_S_heldBy cI cL cZ a_this a_marks a_sizes a_elements c_marks) [(0, .ref a_this), (1, .int v1)] (MQ below (kQi D A (cells_S_heldBy cI cL cZ a_this a_marks a_sizes a_elements c_marks) x) args s 0 0 A) 0 [] := by
  unfold f_S_heldBy at h
  refine k_iload_n C dX2_heldBy_0 1 rfl rfl ?_
  obtain ⟨x1, hx1, h⟩ := bindE h
  refine kcallE_i C (r := x1) (fun H locs ls hP hD hS hF hz => krunSN C (c_M_isShelf l D cI cL cZ H.size v1 x1 hx1) ⟨va_cnB 1 C.2.2.2.2.1 (gW wq_5) rfl rfl rfl (hE.2.2.2.2.2.2.2 (RX2, 22, yX4_isShelf) (by decide +kernel)) (C.2.2.2.2.1 _ (List.mem_cons_of_mem _ wq_3)) (by decide +kernel) ⟨(Nat.le_of_ble_eq_true rfl), (Nat.le_of_ble_eq_true rfl)⟩, C.2.2.2.2.1 _ (List.mem_cons_of_mem _ wq_6), trivial⟩ kEnv_T rfl rfl (Nat.le_of_ble_eq_true rfl) dX2_heldBy_1 hP hD hz) ?_
  refine k_if_eq C (tgt := 16) dX2_heldBy_4 (by decide) (fun c_4 => ?_) (fun c_4 => ?_)
  · have h := ifT c_4 h
    refine k_iconst C (v := (-1 : Int32)) dX2_heldBy_16 (by decide) ?_
    obtain rfl := Option.some.inj h
    exact kret_i C rfl dX2_heldBy_17
  · have h := ifF c_4 h
    refine k_aload_n C dX2_heldBy_7 0 rfl rfl ?_
    refine k_get C (C0 := RX2) (T := TX2) (N := 3) (fun w h => List.mem_cons_of_mem _ (us_S w h)) 0 rfl rfl 0 (by decide) (List.mem_cons_of_mem _ wq_7) rfl rfl dX2_heldBy_8 ?_
    refine k_iload_n C dX2_heldBy_11 1 rfl rfl ?_
    obtain ⟨x2, hx2, h⟩ := bindE h
    refine k_iald C 1 0 rfl rfl hx2 dX2_heldBy_12 ?_
    refine k_goto C (tgt := 17) dX2_heldBy_13 (by decide) ?_
    obtain rfl := Option.some.inj h
    exact kret_i C rfl dX2_heldBy_17
theorem c_S_heldBy (l : Launch) (D : va_G) (cI : ClassId) (cL : ClassId) (cZ : ClassId) (X : kX) (sz : Nat) (a_this : Nat) (a_marks : Nat) (a_sizes : Nat) (a_elements : Nat) (v1 : Int32) (c_marks : (Nat → Int32)) (x : Int32) (h : f_S_heldBy v1 c_marks = some x) :
    Met l yX2_heldBy (Cond.code yX2_heldBy cX2_heldBy 2 (some .int) :: WS) rm_S_heldBy (kP D (tyG cI cL cZ) (kEs X (va_A (cells_S_heldBy cI cL cZ a_this a_marks a_sizes a_elements c_marks) sz)) [.ref a_this, .int v1] sz (cells_S_heldBy cI cL cZ a_this a_marks a_sizes a_elements c_marks)) (kQi D (va_A (cells_S_heldBy cI cL cZ a_this a_marks a_sizes a_elements c_marks) sz) (cells_S_heldBy cI cL cZ a_this a_marks a_sizes a_elements c_marks) x) 0 0 (va_A (cells_S_heldBy cI cL cZ a_this a_marks a_sizes a_elements c_marks) sz) :=
  kmet (by decide) (Nat.le_of_ble_eq_true rfl) rfl (fun p e s m below meth c C hE => s_S_heldBy C hE h)
abbrev cells_S_whyNoRow (cI : ClassId) (cL : ClassId) (cZ : ClassId) (a_this : Nat) (a_marks : Nat) (a_sizes : Nat) (a_elements : Nat) (c_marks : (Nat → Int32)) : va_W := [(a_this, .inr (2, [.ref a_marks, .ref a_sizes, .ref a_elements])), (a_marks, .inl (cI, 8, .inl c_marks))]
abbrev rm_S_whyNoRow : Room := { frames := 2, cells := 0, slots := 0, locals := 41 }
set_option maxRecDepth 100000 in
set_option maxHeartbeats 4000000 in
theorem s_S_whyNoRow (C : kC p l e rm_S_whyNoRow s m args below meth c D (tyG cI cL cZ) A 3 cX2_whyNoRow yX2_whyNoRow.cls (Cond.code yX2_whyNoRow cX2_whyNoRow 3 (some .int) :: WS) (some .int)) {X : kX} (hE : kEs X A s) {a_this : Nat} {a_marks : Nat} {a_sizes : Nat} {a_elements : Nat} {v1 : Int32} {c_marks : (Nat → Int32)} {x : Int32} (h : f_S_whyNoRow v1 c_marks = some x) :
    kW p l e rm_S_whyNoRow s m args below meth c D A 3 (cells_S_whyNoRow cI cL cZ a_this a_marks a_sizes a_elements c_marks) [(0, .ref a_this), (1, .int v1)] (MQ below (kQi D A (cells_S_whyNoRow cI cL cZ a_this a_marks a_sizes a_elements c_marks) x) args s 0 0 A) 0 [] := by
  unfold f_S_whyNoRow at h
  refine k_aload_n C dX2_whyNoRow_0 0 rfl rfl ?_
  refine k_iload_n C dX2_whyNoRow_1 1 rfl rfl ?_
  obtain ⟨x1, hx1, h⟩ := bindE h
  refine kcallR_i C (wc := (cells_S_heldBy cI cL cZ a_this a_marks a_sizes a_elements c_marks)) (r := x1) [0, 1] (fun H locs ls hP hD hS hF hz => krunV C (q0 := 0) (ci := 2) (c_S_heldBy l D cI cL cZ X H.size a_this a_marks a_sizes a_elements v1 c_marks x1 hx1) (cwV 1 C.2.2.2.2.1 (gV wq_22 wq_23 wq_24 wq_20 wq_21) rfl rfl rfl (by decide +kernel) ⟨(Nat.le_of_ble_eq_true rfl), (Nat.le_of_ble_eq_true rfl)⟩) rfl rfl (kEs_call hE hS hF) rfl rfl (Nat.le_of_ble_eq_true rfl) dX2_whyNoRow_2 hP hD hz) rfl (by decide) ?_
  refine k_istore_n C (lv' := [(2, .int x1), (0, .ref a_this), (1, .int v1)]) dX2_whyNoRow_5 rfl (by decide) rfl ?_
  refine k_iload_n C dX2_whyNoRow_6 0 rfl rfl ?_
  refine k_iconst C (v := (-1 : Int32)) dX2_whyNoRow_7 (by decide) ?_
  refine k_icmp_ne C (tgt := 14) dX2_whyNoRow_8 (by decide) (fun c_8 => ?_) (fun c_8 => ?_)
  · have h := ifF c_8 h
    refine k_iload_n C dX2_whyNoRow_14 0 rfl rfl ?_
    refine k_bipush C (v := (10 : Int32)) dX2_whyNoRow_15 (by decide) ?_
    refine k_icmp_ge C (tgt := 24) dX2_whyNoRow_17 (by decide) (fun c_17 => ?_) (fun c_17 => ?_)
    · have h := ifT c_17 h
      refine k_bipush C (v := (-3 : Int32)) dX2_whyNoRow_24 (by decide) ?_
      obtain rfl := Option.some.inj h
      exact kret_i C rfl dX2_whyNoRow_26
    · have h := ifF c_17 h
      refine k_iconst C (v := (0 : Int32)) dX2_whyNoRow_20 (by decide) ?_
      refine k_goto C (tgt := 26) dX2_whyNoRow_21 (by decide) ?_
      obtain rfl := Option.some.inj h
      exact kret_i C rfl dX2_whyNoRow_26
  · have h := ifT c_8 h
    refine k_bipush C (v := (-4 : Int32)) dX2_whyNoRow_11 (by decide) ?_
    obtain rfl := Option.some.inj h
    exact kret_i C rfl dX2_whyNoRow_13
theorem c_S_whyNoRow (l : Launch) (D : va_G) (cI : ClassId) (cL : ClassId) (cZ : ClassId) (X : kX) (sz : Nat) (a_this : Nat) (a_marks : Nat) (a_sizes : Nat) (a_elements : Nat) (v1 : Int32) (c_marks : (Nat → Int32)) (x : Int32) (h : f_S_whyNoRow v1 c_marks = some x) :
    Met l yX2_whyNoRow (Cond.code yX2_whyNoRow cX2_whyNoRow 3 (some .int) :: WS) rm_S_whyNoRow (kP D (tyG cI cL cZ) (kEs X (va_A (cells_S_whyNoRow cI cL cZ a_this a_marks a_sizes a_elements c_marks) sz)) [.ref a_this, .int v1] sz (cells_S_whyNoRow cI cL cZ a_this a_marks a_sizes a_elements c_marks)) (kQi D (va_A (cells_S_whyNoRow cI cL cZ a_this a_marks a_sizes a_elements c_marks) sz) (cells_S_whyNoRow cI cL cZ a_this a_marks a_sizes a_elements c_marks) x) 0 0 (va_A (cells_S_whyNoRow cI cL cZ a_this a_marks a_sizes a_elements c_marks) sz) :=
  kmet (by decide) (Nat.le_of_ble_eq_true rfl) rfl (fun p e s m below meth c C hE => s_S_whyNoRow C hE h)
abbrev cells_S_sizeOf (cI : ClassId) (cL : ClassId) (cZ : ClassId) (a_this : Nat) (a_marks : Nat) (a_sizes : Nat) (a_elements : Nat) (c_sizes : (Nat → Int32)) : va_W := [(a_this, .inr (2, [.ref a_marks, .ref a_sizes, .ref a_elements])), (a_sizes, .inl (cI, 8, .inl c_sizes))]
abbrev rm_S_sizeOf : Room := { frames := 1, cells := 0, slots := 0, locals := 20 }
set_option maxRecDepth 100000 in
set_option maxHeartbeats 4000000 in
theorem s_S_sizeOf (C : kC p l e rm_S_sizeOf s m args below meth c D (tyG cI cL cZ) A 2 cX2_sizeOf yX2_sizeOf.cls (Cond.code yX2_sizeOf cX2_sizeOf 2 (some .int) :: WS) (some .int)) {X : kX} (hE : kEs X A s) {a_this : Nat} {a_marks : Nat} {a_sizes : Nat} {a_elements : Nat} {v1 : Int32} {c_sizes : (Nat → Int32)} {x : Int32} (h : f_S_sizeOf v1 c_sizes = some x) :
    kW p l e rm_S_sizeOf s m args below meth c D A 2 (cells_S_sizeOf cI cL cZ a_this a_marks a_sizes a_elements c_sizes) [(0, .ref a_this), (1, .int v1)] (MQ below (kQi D A (cells_S_sizeOf cI cL cZ a_this a_marks a_sizes a_elements c_sizes) x) args s 0 0 A) 0 [] := by
  unfold f_S_sizeOf at h
  refine k_iload_n C dX2_sizeOf_0 1 rfl rfl ?_
  obtain ⟨x1, hx1, h⟩ := bindE h
  refine kcallE_i C (r := x1) (fun H locs ls hP hD hS hF hz => krunSN C (c_M_isShelf l D cI cL cZ H.size v1 x1 hx1) ⟨va_cnB 1 C.2.2.2.2.1 (gW wq_5) rfl rfl rfl (hE.2.2.2.2.2.2.2 (RX2, 22, yX4_isShelf) (by decide +kernel)) (C.2.2.2.2.1 _ (List.mem_cons_of_mem _ wq_3)) (by decide +kernel) ⟨(Nat.le_of_ble_eq_true rfl), (Nat.le_of_ble_eq_true rfl)⟩, C.2.2.2.2.1 _ (List.mem_cons_of_mem _ wq_6), trivial⟩ kEnv_T rfl rfl (Nat.le_of_ble_eq_true rfl) dX2_sizeOf_1 hP hD hz) ?_
  refine k_if_eq C (tgt := 16) dX2_sizeOf_4 (by decide) (fun c_4 => ?_) (fun c_4 => ?_)
  · have h := ifT c_4 h
    refine k_iconst C (v := (0 : Int32)) dX2_sizeOf_16 (by decide) ?_
    obtain rfl := Option.some.inj h
    exact kret_i C rfl dX2_sizeOf_17
  · have h := ifF c_4 h
    refine k_aload_n C dX2_sizeOf_7 0 rfl rfl ?_
    refine k_get C (C0 := RX2) (T := TX2) (N := 3) (fun w h => List.mem_cons_of_mem _ (us_S w h)) 0 rfl rfl 1 (by decide) (List.mem_cons_of_mem _ wq_8) rfl rfl dX2_sizeOf_8 ?_
    refine k_iload_n C dX2_sizeOf_11 1 rfl rfl ?_
    obtain ⟨x2, hx2, h⟩ := bindE h
    refine k_iald C 1 0 rfl rfl hx2 dX2_sizeOf_12 ?_
    refine k_goto C (tgt := 17) dX2_sizeOf_13 (by decide) ?_
    obtain rfl := Option.some.inj h
    exact kret_i C rfl dX2_sizeOf_17
theorem c_S_sizeOf (l : Launch) (D : va_G) (cI : ClassId) (cL : ClassId) (cZ : ClassId) (X : kX) (sz : Nat) (a_this : Nat) (a_marks : Nat) (a_sizes : Nat) (a_elements : Nat) (v1 : Int32) (c_sizes : (Nat → Int32)) (x : Int32) (h : f_S_sizeOf v1 c_sizes = some x) :
    Met l yX2_sizeOf (Cond.code yX2_sizeOf cX2_sizeOf 2 (some .int) :: WS) rm_S_sizeOf (kP D (tyG cI cL cZ) (kEs X (va_A (cells_S_sizeOf cI cL cZ a_this a_marks a_sizes a_elements c_sizes) sz)) [.ref a_this, .int v1] sz (cells_S_sizeOf cI cL cZ a_this a_marks a_sizes a_elements c_sizes)) (kQi D (va_A (cells_S_sizeOf cI cL cZ a_this a_marks a_sizes a_elements c_sizes) sz) (cells_S_sizeOf cI cL cZ a_this a_marks a_sizes a_elements c_sizes) x) 0 0 (va_A (cells_S_sizeOf cI cL cZ a_this a_marks a_sizes a_elements c_sizes) sz) :=
  kmet (by decide) (Nat.le_of_ble_eq_true rfl) rfl (fun p e s m below meth c C hE => s_S_sizeOf C hE h)
abbrev cells_S_lowest (cI : ClassId) (cL : ClassId) (cZ : ClassId) : va_W := []
abbrev rm_S_lowest : Room := { frames := 0, cells := 0, slots := 0, locals := 0 }
set_option maxRecDepth 100000 in
set_option maxHeartbeats 4000000 in
theorem s_S_lowest (C : kC p l e rm_S_lowest s m args below meth c D (tyG cI cL cZ) A 3 cX2_lowest yX2_lowest.cls (Cond.code yX2_lowest cX2_lowest 3 (some .long) :: WS) (some .long)) {v0 : Int32} {v1 : Int64} {x : Int64} (h : f_S_lowest v0 v1 = some x) :
    kW p l e rm_S_lowest s m args below meth c D A 3 (cells_S_lowest cI cL cZ) [(0, .int v0), (1, .long v1)] (MQ below (kQl D A (cells_S_lowest cI cL cZ) x) args s 0 0 A) 0 [] := by
  unfold f_S_lowest at h
  refine k_iload_n C dX2_lowest_0 0 rfl rfl ?_
  by_cases e_1_0 : v0 = (0 : Int32)
  · have h := ifT e_1_0 h
    have z : Int32.toInt v0 = 0 := by rw [e_1_0]; decide
    refine k_tableIn C (off := 31) (tgt := 32) dX2_lowest_1 (by rw [z]; decide) (by rw [z]; decide) (by rw [z]; rfl) (by decide) ?_
    refine k_lload_n C dX2_lowest_32 1 rfl rfl ?_
    refine k_l2i C dX2_lowest_33 ?_
    refine k_i2b C dX2_lowest_34 ?_
    refine k_i2l C dX2_lowest_35 ?_
    obtain rfl := Option.some.inj h
    exact kret_l C rfl dX2_lowest_36
  have h := ifF e_1_0 h
  by_cases e_1_1 : v0 = (1 : Int32)
  · have h := ifT e_1_1 h
    have z : Int32.toInt v0 = 1 := by rw [e_1_1]; decide
    refine k_tableIn C (off := 36) (tgt := 37) dX2_lowest_1 (by rw [z]; decide) (by rw [z]; decide) (by rw [z]; rfl) (by decide) ?_
    refine k_lload_n C dX2_lowest_37 1 rfl rfl ?_
    refine k_l2i C dX2_lowest_38 ?_
    refine k_i2s C dX2_lowest_39 ?_
    refine k_i2l C dX2_lowest_40 ?_
    obtain rfl := Option.some.inj h
    exact kret_l C rfl dX2_lowest_41
  have h := ifF e_1_1 h
  by_cases e_1_2 : v0 = (2 : Int32)
  · have h := ifT e_1_2 h
    have z : Int32.toInt v0 = 2 := by rw [e_1_2]; decide
    refine k_tableIn C (off := 41) (tgt := 42) dX2_lowest_1 (by rw [z]; decide) (by rw [z]; decide) (by rw [z]; rfl) (by decide) ?_
    refine k_lload_n C dX2_lowest_42 1 rfl rfl ?_
    refine k_l2i C dX2_lowest_43 ?_
    refine k_i2l C dX2_lowest_44 ?_
    obtain rfl := Option.some.inj h
    exact kret_l C rfl dX2_lowest_45
  have h := ifF e_1_2 h
  by_cases e_1_3 : v0 = (3 : Int32)
  · have h := ifT e_1_3 h
    have z : Int32.toInt v0 = 3 := by rw [e_1_3]; decide
    refine k_tableIn C (off := 45) (tgt := 46) dX2_lowest_1 (by rw [z]; decide) (by rw [z]; decide) (by rw [z]; rfl) (by decide) ?_
    refine k_lload_n C dX2_lowest_46 1 rfl rfl ?_
    obtain rfl := Option.some.inj h
    exact kret_l C rfl dX2_lowest_47
  have h := ifF e_1_3 h
  have ze_1_0 := lv_neT e_1_0 (a := 0) (by decide)
  have ze_1_1 := lv_neT e_1_1 (a := 1) (by decide)
  have ze_1_2 := lv_neT e_1_2 (a := 2) (by decide)
  have ze_1_3 := lv_neT e_1_3 (a := 3) (by decide)
  refine k_tableOut C (tgt := 48) dX2_lowest_1 (by omega) (by decide) ?_
  refine k_lload_n C dX2_lowest_48 1 rfl rfl ?_
  refine k_lconst C (v := (0 : Int64)) dX2_lowest_49 (by decide) ?_
  refine k_lcmp C dX2_lowest_50 ?_
  refine k_if_eq C (tgt := 58) dX2_lowest_51 (by decide) (fun c_51 => ?_) (fun c_51 => ?_)
  · have h := ifT c_51 h
    refine k_lconst C (v := (0 : Int64)) dX2_lowest_58 (by decide) ?_
    obtain rfl := Option.some.inj h
    exact kret_l C rfl dX2_lowest_59
  · have h := ifF c_51 h
    refine k_lconst C (v := (1 : Int64)) dX2_lowest_54 (by decide) ?_
    refine k_goto C (tgt := 59) dX2_lowest_55 (by decide) ?_
    obtain rfl := Option.some.inj h
    exact kret_l C rfl dX2_lowest_59
theorem c_S_lowest (l : Launch) (D : va_G) (cI : ClassId) (cL : ClassId) (cZ : ClassId) (sz : Nat) (v0 : Int32) (v1 : Int64) (x : Int64) (h : f_S_lowest v0 v1 = some x) :
    Met l yX2_lowest (Cond.code yX2_lowest cX2_lowest 3 (some .long) :: WS) rm_S_lowest (kP D (tyG cI cL cZ) kTrue [.int v0, .long v1] sz (cells_S_lowest cI cL cZ)) (kQl D (va_A (cells_S_lowest cI cL cZ) sz) (cells_S_lowest cI cL cZ) x) 0 0 (va_A (cells_S_lowest cI cL cZ) sz) :=
  kmet (by decide) (Nat.le_of_ble_eq_true rfl) rfl (fun p e s m below meth c C hE => s_S_lowest C h)
abbrev cells_S_put (cI : ClassId) (cL : ClassId) (cZ : ClassId) (a_this : Nat) (a_marks : Nat) (a_sizes : Nat) (a_elements : Nat) (c_marks : (Nat → Int32)) (c_sizes : (Nat → Int32)) (c_elements : (Nat → Int64)) : va_W := [(a_this, .inr (2, [.ref a_marks, .ref a_sizes, .ref a_elements])), (a_marks, .inl (cI, 8, .inl c_marks)), (a_sizes, .inl (cI, 8, .inl c_sizes)), (a_elements, .inl (cL, 320, .inr (.inl c_elements)))]
abbrev rm_S_put : Room := { frames := 2, cells := 0, slots := 0, locals := 41 }
set_option maxRecDepth 100000 in
set_option maxHeartbeats 4000000 in
theorem s_S_put (C : kC p l e rm_S_put s m args below meth c D (tyG cI cL cZ) A 5 cX2_put yX2_put.cls (Cond.code yX2_put cX2_put 5 none :: WS) none) {X : kX} (hE : kEs X A s) {a_this : Nat} {a_marks : Nat} {a_sizes : Nat} {a_elements : Nat} {v1 : Int32} {v2 : Int32} {v3 : Int64} {c_marks : (Nat → Int32)} {c_sizes : (Nat → Int32)} {c_elements : (Nat → Int64)} {x : (Nat → Int64)} (h : f_S_put v1 v2 v3 c_marks c_sizes c_elements = some x) :
    kW p l e rm_S_put s m args below meth c D A 5 (cells_S_put cI cL cZ a_this a_marks a_sizes a_elements c_marks c_sizes c_elements) [(0, .ref a_this), (1, .int v1), (2, .int v2), (3, .long v3)] (MQ below (kQv D A (cells_S_put cI cL cZ a_this a_marks a_sizes a_elements c_marks c_sizes x)) args s 0 0 A) 0 [] := by
  unfold f_S_put at h
  refine k_iload_n C dX2_put_0 2 rfl rfl ?_
  refine k_iconst C (v := (0 : Int32)) dX2_put_1 (by decide) ?_
  refine k_aload_n C dX2_put_2 0 rfl rfl ?_
  refine k_iload_n C dX2_put_3 1 rfl rfl ?_
  obtain ⟨x1, hx1, h⟩ := bindE h
  refine kcallR_i C (wc := (cells_S_sizeOf cI cL cZ a_this a_marks a_sizes a_elements c_sizes)) (r := x1) [0, 2] (fun H locs ls hP hD hS hF hz => krunV C (q0 := 0) (ci := 2) (c_S_sizeOf l D cI cL cZ X H.size a_this a_marks a_sizes a_elements v1 c_sizes x1 hx1) (cwV 1 C.2.2.2.2.1 (gV wq_26 wq_27 wq_28 wq_20 wq_25) rfl rfl rfl (by decide +kernel) ⟨(Nat.le_of_ble_eq_true rfl), (Nat.le_of_ble_eq_true rfl)⟩) rfl rfl (kEs_call hE hS hF) rfl rfl (Nat.le_of_ble_eq_true rfl) dX2_put_4 hP hD hz) rfl (by decide) ?_
  refine k_iconst C (v := (1 : Int32)) dX2_put_7 (by decide) ?_
  refine k_isub C dX2_put_8 ?_
  obtain ⟨x2, hx2, h⟩ := bindE h
  refine kcallE_i C (r := x2) (fun H locs ls hP hD hS hF hz => krunSN C (c_M_isWithin l D cI cL cZ H.size v2 (0 : Int32) (x1 - (1 : Int32)) x2 hx2) ⟨va_cnB 3 C.2.2.2.2.1 (gW wq_0) rfl rfl rfl (hE.2.2.2.2.2.2.2 (RX2, 33, yX4_isWithin) (by decide +kernel)) (C.2.2.2.2.1 _ (List.mem_cons_of_mem _ wq_3)) (by decide +kernel) ⟨(Nat.le_of_ble_eq_true rfl), (Nat.le_of_ble_eq_true rfl)⟩, C.2.2.2.2.1 _ (List.mem_cons_of_mem _ wq_2), trivial⟩ kEnv_T rfl rfl (Nat.le_of_ble_eq_true rfl) dX2_put_9 hP hD hz) ?_
  refine k_if_eq C (tgt := 35) dX2_put_12 (by decide) (fun c_12 => ?_) (fun c_12 => ?_)
  · have h := ifT c_12 h
    obtain rfl := Option.some.inj h
    exact kret_v C rfl dX2_put_35
  · have h := ifF c_12 h
    refine k_aload_n C dX2_put_15 0 rfl rfl ?_
    refine k_get C (C0 := RX2) (T := TX2) (N := 3) (fun w h => List.mem_cons_of_mem _ (us_S w h)) 0 rfl rfl 2 (by decide) (List.mem_cons_of_mem _ wq_9) rfl rfl dX2_put_16 ?_
    refine k_iload_n C dX2_put_19 1 rfl rfl ?_
    refine k_bipush C (v := (40 : Int32)) dX2_put_20 (by decide) ?_
    refine k_imul C dX2_put_22 ?_
    refine k_iload_n C dX2_put_23 2 rfl rfl ?_
    refine k_iadd C dX2_put_24 ?_
    refine k_aload_n C dX2_put_25 0 rfl rfl ?_
    refine k_iload_n C dX2_put_26 1 rfl rfl ?_
    obtain ⟨x3, hx3, h⟩ := bindE h
    refine kcallR_i C (wc := (cells_S_heldBy cI cL cZ a_this a_marks a_sizes a_elements c_marks)) (r := x3) [0, 1] (fun H locs ls hP hD hS hF hz => krunV C (q0 := 0) (ci := 2) (c_S_heldBy l D cI cL cZ X H.size a_this a_marks a_sizes a_elements v1 c_marks x3 hx3) (cwV 1 C.2.2.2.2.1 (gV wq_22 wq_23 wq_24 wq_20 wq_21) rfl rfl rfl (by decide +kernel) ⟨(Nat.le_of_ble_eq_true rfl), (Nat.le_of_ble_eq_true rfl)⟩) rfl rfl (kEs_call hE hS hF) rfl rfl (Nat.le_of_ble_eq_true rfl) dX2_put_27 hP hD hz) rfl (by decide) ?_
    refine k_lload_n C dX2_put_30 3 rfl rfl ?_
    obtain ⟨x4, hx4, h⟩ := bindE h
    refine kcallE_l C (r := x4) (fun H locs ls hP hD hS hF hz => krunS C (c_S_lowest l D cI cL cZ H.size x3 v3 x4 hx4) (va_cwS 2 C.2.2.2.2.1 (gS wq_30 wq_31 wq_20 wq_29) rfl rfl rfl (by decide +kernel) ⟨(Nat.le_of_ble_eq_true rfl), (Nat.le_of_ble_eq_true rfl)⟩) kEnv_T rfl rfl (Nat.le_of_ble_eq_true rfl) dX2_put_31 hP hD hz) ?_
    obtain ⟨x5, hx5, h⟩ := bindE h
    refine k_last C 3 1 (ws' := (cells_S_put cI cL cZ a_this a_marks a_sizes a_elements c_marks c_sizes x5)) rfl rfl hx5 rfl dX2_put_34 ?_
    obtain rfl := Option.some.inj h
    exact kret_v C rfl dX2_put_35
theorem c_S_put (l : Launch) (D : va_G) (cI : ClassId) (cL : ClassId) (cZ : ClassId) (X : kX) (sz : Nat) (a_this : Nat) (a_marks : Nat) (a_sizes : Nat) (a_elements : Nat) (v1 : Int32) (v2 : Int32) (v3 : Int64) (c_marks : (Nat → Int32)) (c_sizes : (Nat → Int32)) (c_elements : (Nat → Int64)) (x : (Nat → Int64)) (h : f_S_put v1 v2 v3 c_marks c_sizes c_elements = some x) :
    Met l yX2_put (Cond.code yX2_put cX2_put 5 none :: WS) rm_S_put (kP D (tyG cI cL cZ) (kEs X (va_A (cells_S_put cI cL cZ a_this a_marks a_sizes a_elements c_marks c_sizes c_elements) sz)) [.ref a_this, .int v1, .int v2, .long v3] sz (cells_S_put cI cL cZ a_this a_marks a_sizes a_elements c_marks c_sizes c_elements)) (kQv D (va_A (cells_S_put cI cL cZ a_this a_marks a_sizes a_elements c_marks c_sizes c_elements) sz) (cells_S_put cI cL cZ a_this a_marks a_sizes a_elements c_marks c_sizes x)) 0 0 (va_A (cells_S_put cI cL cZ a_this a_marks a_sizes a_elements c_marks c_sizes c_elements) sz) :=
  kmet (by decide) (Nat.le_of_ble_eq_true rfl) rfl (fun p e s m below meth c C hE => s_S_put C hE h)
abbrev cells_M_set (cI : ClassId) (cL : ClassId) (cZ : ClassId) (a_this : Nat) (a_now : Nat) (a_kept : Nat) (a_trial : Nat) (a_shelves : Nat) (a_tape : Nat) (a_paths : Nat) (a_sounds : Nat) (a_volumes : Nat) (a_refusals : Nat) (a_shelves_marks : Nat) (a_shelves_sizes : Nat) (a_shelves_elements : Nat) (c_isKept : Int32) (c_shelves_marks : (Nat → Int32)) (c_shelves_sizes : (Nat → Int32)) (c_shelves_elements : (Nat → Int64)) (c_refusals : (Nat → Int32)) : va_W := [(a_this, .inr (4, [.ref a_now, .ref a_kept, .ref a_trial, .ref a_shelves, .ref a_tape, .ref a_paths, .ref a_sounds, .ref a_volumes, .ref a_refusals, .int c_isKept])), (a_shelves, .inr (2, [.ref a_shelves_marks, .ref a_shelves_sizes, .ref a_shelves_elements])), (a_shelves_marks, .inl (cI, 8, .inl c_shelves_marks)), (a_shelves_sizes, .inl (cI, 8, .inl c_shelves_sizes)), (a_shelves_elements, .inl (cL, 320, .inr (.inl c_shelves_elements))), (a_refusals, .inl (cI, 5, .inl c_refusals))]
abbrev rm_M_set : Room := { frames := 3, cells := 0, slots := 0, locals := 65 }
set_option maxRecDepth 100000 in
set_option maxHeartbeats 4000000 in
theorem s_M_set (C : kC p l e rm_M_set s m args below meth c D (tyG cI cL cZ) A 6 cX4_set yX4_set.cls (Cond.code yX4_set cX4_set 6 (some .int) :: WS) (some .int)) {X : kX} (hE : kEs X A s) {a_this : Nat} {a_now : Nat} {a_kept : Nat} {a_trial : Nat} {a_shelves : Nat} {a_tape : Nat} {a_paths : Nat} {a_sounds : Nat} {a_volumes : Nat} {a_refusals : Nat} {a_shelves_marks : Nat} {a_shelves_sizes : Nat} {a_shelves_elements : Nat} {v1 : Int32} {v2 : Int32} {v3 : Int64} {c_isKept : Int32} {c_shelves_marks : (Nat → Int32)} {c_shelves_sizes : (Nat → Int32)} {c_shelves_elements : (Nat → Int64)} {c_refusals : (Nat → Int32)} {x : (Int32 × (Nat → Int64) × (Nat → Int32))} (h : f_M_set v1 v2 v3 c_shelves_marks c_shelves_sizes c_shelves_elements c_refusals = some x) :
    kW p l e rm_M_set s m args below meth c D A 6 (cells_M_set cI cL cZ a_this a_now a_kept a_trial a_shelves a_tape a_paths a_sounds a_volumes a_refusals a_shelves_marks a_shelves_sizes a_shelves_elements c_isKept c_shelves_marks c_shelves_sizes c_shelves_elements c_refusals) [(0, .ref a_this), (1, .int v1), (2, .int v2), (3, .long v3)] (MQ below (kQi D A (cells_M_set cI cL cZ a_this a_now a_kept a_trial a_shelves a_tape a_paths a_sounds a_volumes a_refusals a_shelves_marks a_shelves_sizes a_shelves_elements c_isKept c_shelves_marks c_shelves_sizes x.2.1 x.2.2) x.1) args s 0 0 A) 0 [] := by
  unfold f_M_set at h
  refine k_iload_n C dX4_set_0 1 rfl rfl ?_
  obtain ⟨x1, hx1, h⟩ := bindE h
  refine kcallE_i C (r := x1) (fun H locs ls hP hD hS hF hz => krunS C (c_M_isShelf l D cI cL cZ H.size v1 x1 hx1) (va_cwS 1 C.2.2.2.2.1 (gS wq_10 wq_6 wq_3 wq_5) rfl rfl rfl (by decide +kernel) ⟨(Nat.le_of_ble_eq_true rfl), (Nat.le_of_ble_eq_true rfl)⟩) kEnv_T rfl rfl (Nat.le_of_ble_eq_true rfl) dX4_set_1 hP hD hz) ?_
  refine k_if_ne C (tgt := 14) dX4_set_4 (by decide) (fun c_4 => ?_) (fun c_4 => ?_)
  · have h := ifF c_4 h
    refine k_aload_n C dX4_set_14 0 rfl rfl ?_
    refine k_get C (C0 := RX4) (T := TX4) (N := 10) (fun w h => List.mem_cons_of_mem _ (us_M w h)) 0 rfl rfl 3 (by decide) (List.mem_cons_of_mem _ wq_15) rfl rfl dX4_set_15 ?_
    refine k_iload_n C dX4_set_18 1 rfl rfl ?_
    obtain ⟨x2, hx2, h⟩ := bindE h
    refine kcallR_i C (wc := (cells_S_whyNoRow cI cL cZ a_shelves a_shelves_marks a_shelves_sizes a_shelves_elements c_shelves_marks)) (r := x2) [1, 2] (fun H locs ls hP hD hS hF hz => krunV C (q0 := 0) (ci := 2) (c_S_whyNoRow l D cI cL cZ X H.size a_shelves a_shelves_marks a_shelves_sizes a_shelves_elements v1 c_shelves_marks x2 hx2) (cwV 1 C.2.2.2.2.1 (gV wq_33 wq_34 wq_35 wq_20 wq_32) rfl rfl rfl (by decide +kernel) ⟨(Nat.le_of_ble_eq_true rfl), (Nat.le_of_ble_eq_true rfl)⟩) rfl rfl (kEs_call hE hS hF) rfl rfl (Nat.le_of_ble_eq_true rfl) dX4_set_19 hP hD hz) rfl (by decide) ?_
    refine k_istore C (lv' := [(5, .int x2), (0, .ref a_this), (1, .int v1), (2, .int v2), (3, .long v3)]) dX4_set_22 (by decide) rfl ?_
    refine k_iload C dX4_set_24 0 rfl ?_
    refine k_if_eq C (tgt := 36) dX4_set_26 (by decide) (fun c_26 => ?_) (fun c_26 => ?_)
    · have h := ifT c_26 h
      refine k_iload_n C dX4_set_36 3 rfl rfl ?_
      refine k_iconst C (v := (0 : Int32)) dX4_set_37 (by decide) ?_
      refine k_aload_n C dX4_set_38 1 rfl rfl ?_
      refine k_get C (C0 := RX4) (T := TX4) (N := 10) (fun w h => List.mem_cons_of_mem _ (us_M w h)) 0 rfl rfl 3 (by decide) (List.mem_cons_of_mem _ wq_15) rfl rfl dX4_set_39 ?_
      refine k_iload_n C dX4_set_42 2 rfl rfl ?_
      obtain ⟨x3, hx3, h⟩ := bindE h
      refine kcallR_i C (wc := (cells_S_sizeOf cI cL cZ a_shelves a_shelves_marks a_shelves_sizes a_shelves_elements c_shelves_sizes)) (r := x3) [1, 3] (fun H locs ls hP hD hS hF hz => krunV C (q0 := 0) (ci := 2) (c_S_sizeOf l D cI cL cZ X H.size a_shelves a_shelves_marks a_shelves_sizes a_shelves_elements v1 c_shelves_sizes x3 hx3) (cwV 1 C.2.2.2.2.1 (gV wq_36 wq_27 wq_28 wq_20 wq_25) rfl rfl rfl (by decide +kernel) ⟨(Nat.le_of_ble_eq_true rfl), (Nat.le_of_ble_eq_true rfl)⟩) rfl rfl (kEs_call hE hS hF) rfl rfl (Nat.le_of_ble_eq_true rfl) dX4_set_43 hP hD hz) rfl (by decide) ?_
      refine k_iconst C (v := (1 : Int32)) dX4_set_46 (by decide) ?_
      refine k_isub C dX4_set_47 ?_
      obtain ⟨x4, hx4, h⟩ := bindE h
      refine kcallE_i C (r := x4) (fun H locs ls hP hD hS hF hz => krunS C (c_M_isWithin l D cI cL cZ H.size v2 (0 : Int32) (x3 - (1 : Int32)) x4 hx4) (va_cwS 3 C.2.2.2.2.1 (gS wq_1 wq_2 wq_3 wq_0) rfl rfl rfl (by decide +kernel) ⟨(Nat.le_of_ble_eq_true rfl), (Nat.le_of_ble_eq_true rfl)⟩) kEnv_T rfl rfl (Nat.le_of_ble_eq_true rfl) dX4_set_48 hP hD hz) ?_
      refine k_if_ne C (tgt := 61) dX4_set_51 (by decide) (fun c_51 => ?_) (fun c_51 => ?_)
      · have h := ifF c_51 h
        refine k_aload_n C dX4_set_61 1 rfl rfl ?_
        refine k_get C (C0 := RX4) (T := TX4) (N := 10) (fun w h => List.mem_cons_of_mem _ (us_M w h)) 0 rfl rfl 3 (by decide) (List.mem_cons_of_mem _ wq_15) rfl rfl dX4_set_62 ?_
        refine k_iload_n C dX4_set_65 2 rfl rfl ?_
        refine k_iload_n C dX4_set_66 3 rfl rfl ?_
        refine k_lload_n C dX4_set_67 4 rfl rfl ?_
        obtain ⟨x5, hx5, h⟩ := bindE h
        refine kcallU_v C (wc := (cells_S_put cI cL cZ a_shelves a_shelves_marks a_shelves_sizes a_shelves_elements c_shelves_marks c_shelves_sizes c_shelves_elements)) (w1 := (cells_S_put cI cL cZ a_shelves a_shelves_marks a_shelves_sizes a_shelves_elements c_shelves_marks c_shelves_sizes x5)) (ws' := (cells_M_set cI cL cZ a_this a_now a_kept a_trial a_shelves a_tape a_paths a_sounds a_volumes a_refusals a_shelves_marks a_shelves_sizes a_shelves_elements c_isKept c_shelves_marks c_shelves_sizes x5 c_refusals)) [1, 2, 3, 4] (fun H locs ls hP hD hS hF hz => krunV C (q0 := 0) (ci := 2) (c_S_put l D cI cL cZ X H.size a_shelves a_shelves_marks a_shelves_sizes a_shelves_elements v1 v2 v3 c_shelves_marks c_shelves_sizes c_shelves_elements x5 hx5) (cwV 3 C.2.2.2.2.1 (gV wq_38 wq_39 wq_40 wq_20 wq_37) rfl rfl rfl (by decide +kernel) ⟨(Nat.le_of_ble_eq_true rfl), (Nat.le_of_ble_eq_true rfl)⟩) rfl rfl (kEs_call hE hS hF) rfl rfl (Nat.le_of_ble_eq_true rfl) dX4_set_68 hP hD hz) rfl (by decide) rfl rfl ?_
        refine k_iconst C (v := (1 : Int32)) dX4_set_71 (by decide) ?_
        obtain rfl := Option.some.inj h
        exact kret_i C rfl dX4_set_72
      · have h := ifT c_51 h
        refine k_aload_n C dX4_set_54 1 rfl rfl ?_
        refine k_bipush C (v := (-2 : Int32)) dX4_set_55 (by decide) ?_
        obtain ⟨x6, hx6, h⟩ := bindE h
        refine kcallU_i C (wc := (cells_M_refuse cI cL cZ a_this a_now a_kept a_trial a_shelves a_tape a_paths a_sounds a_volumes a_refusals c_isKept c_refusals)) (w1 := (cells_M_refuse cI cL cZ a_this a_now a_kept a_trial a_shelves a_tape a_paths a_sounds a_volumes a_refusals c_isKept x6.2)) (ws' := (cells_M_set cI cL cZ a_this a_now a_kept a_trial a_shelves a_tape a_paths a_sounds a_volumes a_refusals a_shelves_marks a_shelves_sizes a_shelves_elements c_isKept c_shelves_marks c_shelves_sizes c_shelves_elements x6.2)) (r := x6.1) [0, 5] (fun H locs ls hP hD hS hF hz => krunV C (q0 := 0) (ci := 4) (c_M_refuse l D cI cL cZ H.size a_this a_now a_kept a_trial a_shelves a_tape a_paths a_sounds a_volumes a_refusals (-2 : Int32) c_isKept c_refusals x6 hx6) (cwV 1 C.2.2.2.2.1 (gV wq_12 wq_13 wq_14 wq_3 wq_11) rfl rfl rfl (by decide +kernel) ⟨(Nat.le_of_ble_eq_true rfl), (Nat.le_of_ble_eq_true rfl)⟩) rfl rfl kEnv_T rfl rfl (Nat.le_of_ble_eq_true rfl) dX4_set_57 hP hD hz) rfl (by decide) rfl rfl ?_
        obtain rfl := Option.some.inj h
        exact kret_i C rfl dX4_set_60
    · have h := ifF c_26 h
      refine k_aload_n C dX4_set_29 1 rfl rfl ?_
      refine k_iload C dX4_set_30 0 rfl ?_
      obtain ⟨x7, hx7, h⟩ := bindE h
      refine kcallU_i C (wc := (cells_M_refuse cI cL cZ a_this a_now a_kept a_trial a_shelves a_tape a_paths a_sounds a_volumes a_refusals c_isKept c_refusals)) (w1 := (cells_M_refuse cI cL cZ a_this a_now a_kept a_trial a_shelves a_tape a_paths a_sounds a_volumes a_refusals c_isKept x7.2)) (ws' := (cells_M_set cI cL cZ a_this a_now a_kept a_trial a_shelves a_tape a_paths a_sounds a_volumes a_refusals a_shelves_marks a_shelves_sizes a_shelves_elements c_isKept c_shelves_marks c_shelves_sizes c_shelves_elements x7.2)) (r := x7.1) [0, 5] (fun H locs ls hP hD hS hF hz => krunV C (q0 := 0) (ci := 4) (c_M_refuse l D cI cL cZ H.size a_this a_now a_kept a_trial a_shelves a_tape a_paths a_sounds a_volumes a_refusals x2 c_isKept c_refusals x7 hx7) (cwV 1 C.2.2.2.2.1 (gV wq_12 wq_13 wq_14 wq_3 wq_11) rfl rfl rfl (by decide +kernel) ⟨(Nat.le_of_ble_eq_true rfl), (Nat.le_of_ble_eq_true rfl)⟩) rfl rfl kEnv_T rfl rfl (Nat.le_of_ble_eq_true rfl) dX4_set_32 hP hD hz) rfl (by decide) rfl rfl ?_
      obtain rfl := Option.some.inj h
      exact kret_i C rfl dX4_set_35
  · have h := ifT c_4 h
    refine k_aload_n C dX4_set_7 0 rfl rfl ?_
    refine k_bipush C (v := (-2 : Int32)) dX4_set_8 (by decide) ?_
    obtain ⟨x8, hx8, h⟩ := bindE h
    refine kcallU_i C (wc := (cells_M_refuse cI cL cZ a_this a_now a_kept a_trial a_shelves a_tape a_paths a_sounds a_volumes a_refusals c_isKept c_refusals)) (w1 := (cells_M_refuse cI cL cZ a_this a_now a_kept a_trial a_shelves a_tape a_paths a_sounds a_volumes a_refusals c_isKept x8.2)) (ws' := (cells_M_set cI cL cZ a_this a_now a_kept a_trial a_shelves a_tape a_paths a_sounds a_volumes a_refusals a_shelves_marks a_shelves_sizes a_shelves_elements c_isKept c_shelves_marks c_shelves_sizes c_shelves_elements x8.2)) (r := x8.1) [0, 5] (fun H locs ls hP hD hS hF hz => krunV C (q0 := 0) (ci := 4) (c_M_refuse l D cI cL cZ H.size a_this a_now a_kept a_trial a_shelves a_tape a_paths a_sounds a_volumes a_refusals (-2 : Int32) c_isKept c_refusals x8 hx8) (cwV 1 C.2.2.2.2.1 (gV wq_12 wq_13 wq_14 wq_3 wq_11) rfl rfl rfl (by decide +kernel) ⟨(Nat.le_of_ble_eq_true rfl), (Nat.le_of_ble_eq_true rfl)⟩) rfl rfl kEnv_T rfl rfl (Nat.le_of_ble_eq_true rfl) dX4_set_10 hP hD hz) rfl (by decide) rfl rfl ?_
    obtain rfl := Option.some.inj h
    exact kret_i C rfl dX4_set_13
theorem c_M_set (l : Launch) (D : va_G) (cI : ClassId) (cL : ClassId) (cZ : ClassId) (X : kX) (sz : Nat) (a_this : Nat) (a_now : Nat) (a_kept : Nat) (a_trial : Nat) (a_shelves : Nat) (a_tape : Nat) (a_paths : Nat) (a_sounds : Nat) (a_volumes : Nat) (a_refusals : Nat) (a_shelves_marks : Nat) (a_shelves_sizes : Nat) (a_shelves_elements : Nat) (v1 : Int32) (v2 : Int32) (v3 : Int64) (c_isKept : Int32) (c_shelves_marks : (Nat → Int32)) (c_shelves_sizes : (Nat → Int32)) (c_shelves_elements : (Nat → Int64)) (c_refusals : (Nat → Int32)) (x : (Int32 × (Nat → Int64) × (Nat → Int32))) (h : f_M_set v1 v2 v3 c_shelves_marks c_shelves_sizes c_shelves_elements c_refusals = some x) :
    Met l yX4_set (Cond.code yX4_set cX4_set 6 (some .int) :: WS) rm_M_set (kP D (tyG cI cL cZ) (kEs X (va_A (cells_M_set cI cL cZ a_this a_now a_kept a_trial a_shelves a_tape a_paths a_sounds a_volumes a_refusals a_shelves_marks a_shelves_sizes a_shelves_elements c_isKept c_shelves_marks c_shelves_sizes c_shelves_elements c_refusals) sz)) [.ref a_this, .int v1, .int v2, .long v3] sz (cells_M_set cI cL cZ a_this a_now a_kept a_trial a_shelves a_tape a_paths a_sounds a_volumes a_refusals a_shelves_marks a_shelves_sizes a_shelves_elements c_isKept c_shelves_marks c_shelves_sizes c_shelves_elements c_refusals)) (kQi D (va_A (cells_M_set cI cL cZ a_this a_now a_kept a_trial a_shelves a_tape a_paths a_sounds a_volumes a_refusals a_shelves_marks a_shelves_sizes a_shelves_elements c_isKept c_shelves_marks c_shelves_sizes c_shelves_elements c_refusals) sz) (cells_M_set cI cL cZ a_this a_now a_kept a_trial a_shelves a_tape a_paths a_sounds a_volumes a_refusals a_shelves_marks a_shelves_sizes a_shelves_elements c_isKept c_shelves_marks c_shelves_sizes x.2.1 x.2.2) x.1) 0 0 (va_A (cells_M_set cI cL cZ a_this a_now a_kept a_trial a_shelves a_tape a_paths a_sounds a_volumes a_refusals a_shelves_marks a_shelves_sizes a_shelves_elements c_isKept c_shelves_marks c_shelves_sizes c_shelves_elements c_refusals) sz) :=
  kmet (by decide) (Nat.le_of_ble_eq_true rfl) rfl (fun p e s m below meth c C hE => s_M_set C hE h)
abbrev cells_S_whyNoCopy (cI : ClassId) (cL : ClassId) (cZ : ClassId) (a_this : Nat) (a_marks : Nat) (a_sizes : Nat) (a_elements : Nat) (c_marks : (Nat → Int32)) : va_W := [(a_this, .inr (2, [.ref a_marks, .ref a_sizes, .ref a_elements])), (a_marks, .inl (cI, 8, .inl c_marks))]
abbrev rm_S_whyNoCopy : Room := { frames := 3, cells := 0, slots := 0, locals := 63 }
set_option maxRecDepth 100000 in
set_option maxHeartbeats 4000000 in
theorem s_S_whyNoCopy (C : kC p l e rm_S_whyNoCopy s m args below meth c D (tyG cI cL cZ) A 5 cX2_whyNoCopy yX2_whyNoCopy.cls (Cond.code yX2_whyNoCopy cX2_whyNoCopy 5 (some .int) :: WS) (some .int)) {X : kX} (hE : kEs X A s) {a_this : Nat} {a_marks : Nat} {a_sizes : Nat} {a_elements : Nat} {v1 : Int32} {v2 : Int32} {c_marks : (Nat → Int32)} {x : Int32} (h : f_S_whyNoCopy v1 v2 c_marks = some x) :
    kW p l e rm_S_whyNoCopy s m args below meth c D A 5 (cells_S_whyNoCopy cI cL cZ a_this a_marks a_sizes a_elements c_marks) [(0, .ref a_this), (1, .int v1), (2, .int v2)] (MQ below (kQi D A (cells_S_whyNoCopy cI cL cZ a_this a_marks a_sizes a_elements c_marks) x) args s 0 0 A) 0 [] := by
  unfold f_S_whyNoCopy at h
  refine k_aload_n C dX2_whyNoCopy_0 0 rfl rfl ?_
  refine k_iload_n C dX2_whyNoCopy_1 1 rfl rfl ?_
  obtain ⟨x1, hx1, h⟩ := bindE h
  refine kcallR_i C (wc := (cells_S_whyNoRow cI cL cZ a_this a_marks a_sizes a_elements c_marks)) (r := x1) [0, 1] (fun H locs ls hP hD hS hF hz => krunV C (q0 := 0) (ci := 2) (c_S_whyNoRow l D cI cL cZ X H.size a_this a_marks a_sizes a_elements v1 c_marks x1 hx1) (cwV 1 C.2.2.2.2.1 (gV wq_41 wq_34 wq_35 wq_20 wq_32) rfl rfl rfl (by decide +kernel) ⟨(Nat.le_of_ble_eq_true rfl), (Nat.le_of_ble_eq_true rfl)⟩) rfl rfl (kEs_call hE hS hF) rfl rfl (Nat.le_of_ble_eq_true rfl) dX2_whyNoCopy_2 hP hD hz) rfl (by decide) ?_
  refine k_istore_n C (lv' := [(3, .int x1), (0, .ref a_this), (1, .int v1), (2, .int v2)]) dX2_whyNoCopy_5 rfl (by decide) rfl ?_
  refine k_aload_n C dX2_whyNoCopy_6 1 rfl rfl ?_
  refine k_iload_n C dX2_whyNoCopy_7 3 rfl rfl ?_
  obtain ⟨x2, hx2, h⟩ := bindE h
  refine kcallR_i C (wc := (cells_S_whyNoRow cI cL cZ a_this a_marks a_sizes a_elements c_marks)) (r := x2) [0, 1] (fun H locs ls hP hD hS hF hz => krunV C (q0 := 0) (ci := 2) (c_S_whyNoRow l D cI cL cZ X H.size a_this a_marks a_sizes a_elements v2 c_marks x2 hx2) (cwV 1 C.2.2.2.2.1 (gV wq_41 wq_34 wq_35 wq_20 wq_32) rfl rfl rfl (by decide +kernel) ⟨(Nat.le_of_ble_eq_true rfl), (Nat.le_of_ble_eq_true rfl)⟩) rfl rfl (kEs_call hE hS hF) rfl rfl (Nat.le_of_ble_eq_true rfl) dX2_whyNoCopy_8 hP hD hz) rfl (by decide) ?_
  refine k_istore C (lv' := [(4, .int x2), (3, .int x1), (0, .ref a_this), (1, .int v1), (2, .int v2)]) dX2_whyNoCopy_11 (by decide) rfl ?_
  refine k_iload_n C dX2_whyNoCopy_13 1 rfl rfl ?_
  refine k_bipush C (v := (-3 : Int32)) dX2_whyNoCopy_14 (by decide) ?_
  refine k_icmp_eq C (tgt := 26) dX2_whyNoCopy_16 (by decide) (fun c_16 => ?_) (fun c_16 => ?_)
  · have h := ifT c_16 h
    refine k_bipush C (v := (-3 : Int32)) dX2_whyNoCopy_26 (by decide) ?_
    obtain rfl := Option.some.inj h
    exact kret_i C rfl dX2_whyNoCopy_28
  · have h := ifF c_16 h
    refine k_iload C dX2_whyNoCopy_19 0 rfl ?_
    refine k_bipush C (v := (-3 : Int32)) dX2_whyNoCopy_21 (by decide) ?_
    refine k_icmp_ne C (tgt := 29) dX2_whyNoCopy_23 (by decide) (fun c_23 => ?_) (fun c_23 => ?_)
    · have h := ifF c_23 h
      refine k_iload_n C dX2_whyNoCopy_29 1 rfl rfl ?_
      refine k_bipush C (v := (-4 : Int32)) dX2_whyNoCopy_30 (by decide) ?_
      refine k_icmp_eq C (tgt := 42) dX2_whyNoCopy_32 (by decide) (fun c_32 => ?_) (fun c_32 => ?_)
      · have h := ifT c_32 h
        refine k_bipush C (v := (-4 : Int32)) dX2_whyNoCopy_42 (by decide) ?_
        obtain rfl := Option.some.inj h
        exact kret_i C rfl dX2_whyNoCopy_44
      · have h := ifF c_32 h
        refine k_iload C dX2_whyNoCopy_35 0 rfl ?_
        refine k_bipush C (v := (-4 : Int32)) dX2_whyNoCopy_37 (by decide) ?_
        refine k_icmp_ne C (tgt := 45) dX2_whyNoCopy_39 (by decide) (fun c_39 => ?_) (fun c_39 => ?_)
        · have h := ifF c_39 h
          refine k_aload_n C dX2_whyNoCopy_45 2 rfl rfl ?_
          refine k_iload_n C dX2_whyNoCopy_46 3 rfl rfl ?_
          obtain ⟨x3, hx3, h⟩ := bindE h
          refine kcallR_i C (wc := (cells_S_heldBy cI cL cZ a_this a_marks a_sizes a_elements c_marks)) (r := x3) [0, 1] (fun H locs ls hP hD hS hF hz => krunV C (q0 := 0) (ci := 2) (c_S_heldBy l D cI cL cZ X H.size a_this a_marks a_sizes a_elements v1 c_marks x3 hx3) (cwV 1 C.2.2.2.2.1 (gV wq_22 wq_23 wq_24 wq_20 wq_21) rfl rfl rfl (by decide +kernel) ⟨(Nat.le_of_ble_eq_true rfl), (Nat.le_of_ble_eq_true rfl)⟩) rfl rfl (kEs_call hE hS hF) rfl rfl (Nat.le_of_ble_eq_true rfl) dX2_whyNoCopy_47 hP hD hz) rfl (by decide) ?_
          refine k_aload_n C dX2_whyNoCopy_50 2 rfl rfl ?_
          refine k_iload_n C dX2_whyNoCopy_51 4 rfl rfl ?_
          obtain ⟨x4, hx4, h⟩ := bindE h
          refine kcallR_i C (wc := (cells_S_heldBy cI cL cZ a_this a_marks a_sizes a_elements c_marks)) (r := x4) [0, 1] (fun H locs ls hP hD hS hF hz => krunV C (q0 := 0) (ci := 2) (c_S_heldBy l D cI cL cZ X H.size a_this a_marks a_sizes a_elements v2 c_marks x4 hx4) (cwV 1 C.2.2.2.2.1 (gV wq_22 wq_23 wq_24 wq_20 wq_21) rfl rfl rfl (by decide +kernel) ⟨(Nat.le_of_ble_eq_true rfl), (Nat.le_of_ble_eq_true rfl)⟩) rfl rfl (kEs_call hE hS hF) rfl rfl (Nat.le_of_ble_eq_true rfl) dX2_whyNoCopy_52 hP hD hz) rfl (by decide) ?_
          refine k_icmp_ne C (tgt := 62) dX2_whyNoCopy_55 (by decide) (fun c_55 => ?_) (fun c_55 => ?_)
          · have h := ifF c_55 h
            refine k_bipush C (v := (-3 : Int32)) dX2_whyNoCopy_62 (by decide) ?_
            obtain rfl := Option.some.inj h
            exact kret_i C rfl dX2_whyNoCopy_64
          · have h := ifT c_55 h
            refine k_iconst C (v := (0 : Int32)) dX2_whyNoCopy_58 (by decide) ?_
            refine k_goto C (tgt := 64) dX2_whyNoCopy_59 (by decide) ?_
            obtain rfl := Option.some.inj h
            exact kret_i C rfl dX2_whyNoCopy_64
        · have h := ifT c_39 h
          refine k_bipush C (v := (-4 : Int32)) dX2_whyNoCopy_42 (by decide) ?_
          obtain rfl := Option.some.inj h
          exact kret_i C rfl dX2_whyNoCopy_44
    · have h := ifT c_23 h
      refine k_bipush C (v := (-3 : Int32)) dX2_whyNoCopy_26 (by decide) ?_
      obtain rfl := Option.some.inj h
      exact kret_i C rfl dX2_whyNoCopy_28
theorem c_S_whyNoCopy (l : Launch) (D : va_G) (cI : ClassId) (cL : ClassId) (cZ : ClassId) (X : kX) (sz : Nat) (a_this : Nat) (a_marks : Nat) (a_sizes : Nat) (a_elements : Nat) (v1 : Int32) (v2 : Int32) (c_marks : (Nat → Int32)) (x : Int32) (h : f_S_whyNoCopy v1 v2 c_marks = some x) :
    Met l yX2_whyNoCopy (Cond.code yX2_whyNoCopy cX2_whyNoCopy 5 (some .int) :: WS) rm_S_whyNoCopy (kP D (tyG cI cL cZ) (kEs X (va_A (cells_S_whyNoCopy cI cL cZ a_this a_marks a_sizes a_elements c_marks) sz)) [.ref a_this, .int v1, .int v2] sz (cells_S_whyNoCopy cI cL cZ a_this a_marks a_sizes a_elements c_marks)) (kQi D (va_A (cells_S_whyNoCopy cI cL cZ a_this a_marks a_sizes a_elements c_marks) sz) (cells_S_whyNoCopy cI cL cZ a_this a_marks a_sizes a_elements c_marks) x) 0 0 (va_A (cells_S_whyNoCopy cI cL cZ a_this a_marks a_sizes a_elements c_marks) sz) :=
  kmet (by decide) (Nat.le_of_ble_eq_true rfl) rfl (fun p e s m below meth c C hE => s_S_whyNoCopy C hE h)
abbrev cells_M_isPart (cI : ClassId) (cL : ClassId) (cZ : ClassId) : va_W := []
abbrev rm_M_isPart : Room := { frames := 0, cells := 0, slots := 0, locals := 0 }
set_option maxRecDepth 100000 in
set_option maxHeartbeats 4000000 in
theorem s_M_isPart (C : kC p l e rm_M_isPart s m args below meth c D (tyG cI cL cZ) A 3 cX4_isPart yX4_isPart.cls (Cond.code yX4_isPart cX4_isPart 3 (some .boolean) :: WS) (some .boolean)) {v0 : Int32} {v1 : Int32} {v2 : Int32} {x : Int32} (h : f_M_isPart v0 v1 v2 = some x) :
    kW p l e rm_M_isPart s m args below meth c D A 3 (cells_M_isPart cI cL cZ) [(0, .int v0), (1, .int v1), (2, .int v2)] (MQ below (kQi D A (cells_M_isPart cI cL cZ) x) args s 0 0 A) 0 [] := by
  unfold f_M_isPart at h
  refine k_iload_n C dX4_isPart_0 1 rfl rfl ?_
  refine k_if_lt C (tgt := 24) dX4_isPart_1 (by decide) (fun c_1 => ?_) (fun c_1 => ?_)
  · have h := ifT c_1 h
    refine k_iconst C (v := (0 : Int32)) dX4_isPart_24 (by decide) ?_
    obtain rfl := Option.some.inj h
    exact kret_z C rfl nz0 dX4_isPart_25
  · have h := ifF c_1 h
    refine k_iload_n C dX4_isPart_4 0 rfl rfl ?_
    refine k_if_lt C (tgt := 24) dX4_isPart_5 (by decide) (fun c_5 => ?_) (fun c_5 => ?_)
    · have h := ifT c_5 h
      refine k_iconst C (v := (0 : Int32)) dX4_isPart_24 (by decide) ?_
      obtain rfl := Option.some.inj h
      exact kret_z C rfl nz0 dX4_isPart_25
    · have h := ifF c_5 h
      refine k_iload_n C dX4_isPart_8 0 rfl rfl ?_
      refine k_iload_n C dX4_isPart_9 2 rfl rfl ?_
      refine k_icmp_gt C (tgt := 24) dX4_isPart_10 (by decide) (fun c_10 => ?_) (fun c_10 => ?_)
      · have h := ifT c_10 h
        refine k_iconst C (v := (0 : Int32)) dX4_isPart_24 (by decide) ?_
        obtain rfl := Option.some.inj h
        exact kret_z C rfl nz0 dX4_isPart_25
      · have h := ifF c_10 h
        refine k_iload_n C dX4_isPart_13 1 rfl rfl ?_
        refine k_iload_n C dX4_isPart_14 2 rfl rfl ?_
        refine k_iload_n C dX4_isPart_15 0 rfl rfl ?_
        refine k_isub C dX4_isPart_16 ?_
        refine k_icmp_gt C (tgt := 24) dX4_isPart_17 (by decide) (fun c_17 => ?_) (fun c_17 => ?_)
        · have h := ifT c_17 h
          refine k_iconst C (v := (0 : Int32)) dX4_isPart_24 (by decide) ?_
          obtain rfl := Option.some.inj h
          exact kret_z C rfl nz0 dX4_isPart_25
        · have h := ifF c_17 h
          refine k_iconst C (v := (1 : Int32)) dX4_isPart_20 (by decide) ?_
          refine k_goto C (tgt := 25) dX4_isPart_21 (by decide) ?_
          obtain rfl := Option.some.inj h
          exact kret_z C rfl nz1 dX4_isPart_25
theorem c_M_isPart (l : Launch) (D : va_G) (cI : ClassId) (cL : ClassId) (cZ : ClassId) (sz : Nat) (v0 : Int32) (v1 : Int32) (v2 : Int32) (x : Int32) (h : f_M_isPart v0 v1 v2 = some x) :
    Met l yX4_isPart (Cond.code yX4_isPart cX4_isPart 3 (some .boolean) :: WS) rm_M_isPart (kP D (tyG cI cL cZ) kTrue [.int v0, .int v1, .int v2] sz (cells_M_isPart cI cL cZ)) (kQi D (va_A (cells_M_isPart cI cL cZ) sz) (cells_M_isPart cI cL cZ) x) 0 0 (va_A (cells_M_isPart cI cL cZ) sz) :=
  kmet (by decide) (Nat.le_of_ble_eq_true rfl) rfl (fun p e s m below meth c C hE => s_M_isPart C h)
abbrev cells_S_move (cI : ClassId) (cL : ClassId) (cZ : ClassId) (a_this : Nat) (a_marks : Nat) (a_sizes : Nat) (a_elements : Nat) (c_sizes : (Nat → Int32)) (c_elements : (Nat → Int64)) : va_W := [(a_this, .inr (2, [.ref a_marks, .ref a_sizes, .ref a_elements])), (a_sizes, .inl (cI, 8, .inl c_sizes)), (a_elements, .inl (cL, 320, .inr (.inl c_elements)))]
abbrev rm_S_move : Room := { frames := 2, cells := 0, slots := 0, locals := 41 }
set_option maxRecDepth 100000 in
set_option maxHeartbeats 4000000 in
theorem s_S_move (C : kC p l e rm_S_move s m args below meth c D (tyG cI cL cZ) A 6 cX2_move yX2_move.cls (Cond.code yX2_move cX2_move 6 none :: WS) none) {X : kX} (hE : kEs X A s) {a_this : Nat} {a_marks : Nat} {a_sizes : Nat} {a_elements : Nat} {v1 : Int32} {v2 : Int32} {v3 : Int32} {v4 : Int32} {v5 : Int32} {c_sizes : (Nat → Int32)} {c_elements : (Nat → Int64)} {x : (Nat → Int64)} (h : f_S_move v1 v2 v3 v4 v5 c_sizes c_elements = some x) :
    kW p l e rm_S_move s m args below meth c D A 6 (cells_S_move cI cL cZ a_this a_marks a_sizes a_elements c_sizes c_elements) [(0, .ref a_this), (1, .int v1), (2, .int v2), (3, .int v3), (4, .int v4), (5, .int v5)] (MQ below (kQv D A (cells_S_move cI cL cZ a_this a_marks a_sizes a_elements c_sizes x)) args s 0 0 A) 0 [] := by
  unfold f_S_move at h
  refine k_iload_n C dX2_move_0 3 rfl rfl ?_
  refine k_iload C dX2_move_1 5 rfl ?_
  refine k_aload_n C dX2_move_3 0 rfl rfl ?_
  refine k_iload_n C dX2_move_4 1 rfl rfl ?_
  obtain ⟨x1, hx1, h⟩ := bindE h
  refine kcallR_i C (wc := (cells_S_sizeOf cI cL cZ a_this a_marks a_sizes a_elements c_sizes)) (r := x1) [0, 1] (fun H locs ls hP hD hS hF hz => krunV C (q0 := 0) (ci := 2) (c_S_sizeOf l D cI cL cZ X H.size a_this a_marks a_sizes a_elements v1 c_sizes x1 hx1) (cwV 1 C.2.2.2.2.1 (gV wq_26 wq_27 wq_28 wq_20 wq_25) rfl rfl rfl (by decide +kernel) ⟨(Nat.le_of_ble_eq_true rfl), (Nat.le_of_ble_eq_true rfl)⟩) rfl rfl (kEs_call hE hS hF) rfl rfl (Nat.le_of_ble_eq_true rfl) dX2_move_5 hP hD hz) rfl (by decide) ?_
  obtain ⟨x2, hx2, h⟩ := bindE h
  refine kcallE_i C (r := x2) (fun H locs ls hP hD hS hF hz => krunSN C (c_M_isPart l D cI cL cZ H.size v3 v5 x1 x2 hx2) ⟨va_cnB 3 C.2.2.2.2.1 (gW wq_42) rfl rfl rfl (hE.2.2.2.2.2.2.2 (RX2, 44, yX4_isPart) (by decide +kernel)) (C.2.2.2.2.1 _ (List.mem_cons_of_mem _ wq_3)) (by decide +kernel) ⟨(Nat.le_of_ble_eq_true rfl), (Nat.le_of_ble_eq_true rfl)⟩, C.2.2.2.2.1 _ (List.mem_cons_of_mem _ wq_43), trivial⟩ kEnv_T rfl rfl (Nat.le_of_ble_eq_true rfl) dX2_move_8 hP hD hz) ?_
  refine k_if_eq C (tgt := 55) dX2_move_11 (by decide) (fun c_11 => ?_) (fun c_11 => ?_)
  · have h := ifT c_11 h
    obtain rfl := Option.some.inj h
    exact kret_v C rfl dX2_move_55
  · have h := ifF c_11 h
    refine k_iload C dX2_move_14 4 rfl ?_
    refine k_iload C dX2_move_16 5 rfl ?_
    refine k_aload_n C dX2_move_18 0 rfl rfl ?_
    refine k_iload_n C dX2_move_19 2 rfl rfl ?_
    obtain ⟨x3, hx3, h⟩ := bindE h
    refine kcallR_i C (wc := (cells_S_sizeOf cI cL cZ a_this a_marks a_sizes a_elements c_sizes)) (r := x3) [0, 1] (fun H locs ls hP hD hS hF hz => krunV C (q0 := 0) (ci := 2) (c_S_sizeOf l D cI cL cZ X H.size a_this a_marks a_sizes a_elements v2 c_sizes x3 hx3) (cwV 1 C.2.2.2.2.1 (gV wq_26 wq_27 wq_28 wq_20 wq_25) rfl rfl rfl (by decide +kernel) ⟨(Nat.le_of_ble_eq_true rfl), (Nat.le_of_ble_eq_true rfl)⟩) rfl rfl (kEs_call hE hS hF) rfl rfl (Nat.le_of_ble_eq_true rfl) dX2_move_20 hP hD hz) rfl (by decide) ?_
    obtain ⟨x4, hx4, h⟩ := bindE h
    refine kcallE_i C (r := x4) (fun H locs ls hP hD hS hF hz => krunSN C (c_M_isPart l D cI cL cZ H.size v4 v5 x3 x4 hx4) ⟨va_cnB 3 C.2.2.2.2.1 (gW wq_42) rfl rfl rfl (hE.2.2.2.2.2.2.2 (RX2, 44, yX4_isPart) (by decide +kernel)) (C.2.2.2.2.1 _ (List.mem_cons_of_mem _ wq_3)) (by decide +kernel) ⟨(Nat.le_of_ble_eq_true rfl), (Nat.le_of_ble_eq_true rfl)⟩, C.2.2.2.2.1 _ (List.mem_cons_of_mem _ wq_43), trivial⟩ kEnv_T rfl rfl (Nat.le_of_ble_eq_true rfl) dX2_move_23 hP hD hz) ?_
    refine k_if_eq C (tgt := 55) dX2_move_26 (by decide) (fun c_26 => ?_) (fun c_26 => ?_)
    · have h := ifT c_26 h
      obtain rfl := Option.some.inj h
      exact kret_v C rfl dX2_move_55
    · have h := ifF c_26 h
      refine k_aload_n C dX2_move_29 0 rfl rfl ?_
      refine k_get C (C0 := RX2) (T := TX2) (N := 3) (fun w h => List.mem_cons_of_mem _ (us_S w h)) 0 rfl rfl 2 (by decide) (List.mem_cons_of_mem _ wq_9) rfl rfl dX2_move_30 ?_
      refine k_iload_n C dX2_move_33 1 rfl rfl ?_
      refine k_bipush C (v := (40 : Int32)) dX2_move_34 (by decide) ?_
      refine k_imul C dX2_move_36 ?_
      refine k_iload_n C dX2_move_37 3 rfl rfl ?_
      refine k_iadd C dX2_move_38 ?_
      refine k_aload_n C dX2_move_39 0 rfl rfl ?_
      refine k_get C (C0 := RX2) (T := TX2) (N := 3) (fun w h => List.mem_cons_of_mem _ (us_S w h)) 0 rfl rfl 2 (by decide) (List.mem_cons_of_mem _ wq_9) rfl rfl dX2_move_40 ?_
      refine k_iload_n C dX2_move_43 2 rfl rfl ?_
      refine k_bipush C (v := (40 : Int32)) dX2_move_44 (by decide) ?_
      refine k_imul C dX2_move_46 ?_
      refine k_iload C dX2_move_47 4 rfl ?_
      refine k_iadd C dX2_move_49 ?_
      refine k_iload C dX2_move_50 5 rfl ?_
      obtain ⟨x5, hx5, h⟩ := bindE h
      refine k_copyl C 2 2 1 1 (ws' := (cells_S_move cI cL cZ a_this a_marks a_sizes a_elements c_sizes x5)) (List.mem_cons_of_mem _ wq_44) (List.mem_cons_of_mem _ wq_45) (List.mem_cons_of_mem _ wq_46) (List.mem_cons_of_mem _ wq_47) rfl rfl rfl rfl rfl (fun _ _ => rfl) hx5 rfl (Nat.le_of_ble_eq_true rfl) (Nat.le_of_ble_eq_true rfl) dX2_move_52 ?_
      obtain rfl := Option.some.inj h
      exact kret_v C rfl dX2_move_55
theorem c_S_move (l : Launch) (D : va_G) (cI : ClassId) (cL : ClassId) (cZ : ClassId) (X : kX) (sz : Nat) (a_this : Nat) (a_marks : Nat) (a_sizes : Nat) (a_elements : Nat) (v1 : Int32) (v2 : Int32) (v3 : Int32) (v4 : Int32) (v5 : Int32) (c_sizes : (Nat → Int32)) (c_elements : (Nat → Int64)) (x : (Nat → Int64)) (h : f_S_move v1 v2 v3 v4 v5 c_sizes c_elements = some x) :
    Met l yX2_move (Cond.code yX2_move cX2_move 6 none :: WS) rm_S_move (kP D (tyG cI cL cZ) (kEs X (va_A (cells_S_move cI cL cZ a_this a_marks a_sizes a_elements c_sizes c_elements) sz)) [.ref a_this, .int v1, .int v2, .int v3, .int v4, .int v5] sz (cells_S_move cI cL cZ a_this a_marks a_sizes a_elements c_sizes c_elements)) (kQv D (va_A (cells_S_move cI cL cZ a_this a_marks a_sizes a_elements c_sizes c_elements) sz) (cells_S_move cI cL cZ a_this a_marks a_sizes a_elements c_sizes x)) 0 0 (va_A (cells_S_move cI cL cZ a_this a_marks a_sizes a_elements c_sizes c_elements) sz) :=
  kmet (by decide) (Nat.le_of_ble_eq_true rfl) rfl (fun p e s m below meth c C hE => s_S_move C hE h)
abbrev cells_M_copy (cI : ClassId) (cL : ClassId) (cZ : ClassId) (a_this : Nat) (a_now : Nat) (a_kept : Nat) (a_trial : Nat) (a_shelves : Nat) (a_tape : Nat) (a_paths : Nat) (a_sounds : Nat) (a_volumes : Nat) (a_refusals : Nat) (a_shelves_marks : Nat) (a_shelves_sizes : Nat) (a_shelves_elements : Nat) (c_isKept : Int32) (c_shelves_marks : (Nat → Int32)) (c_shelves_sizes : (Nat → Int32)) (c_shelves_elements : (Nat → Int64)) (c_refusals : (Nat → Int32)) : va_W := [(a_this, .inr (4, [.ref a_now, .ref a_kept, .ref a_trial, .ref a_shelves, .ref a_tape, .ref a_paths, .ref a_sounds, .ref a_volumes, .ref a_refusals, .int c_isKept])), (a_shelves, .inr (2, [.ref a_shelves_marks, .ref a_shelves_sizes, .ref a_shelves_elements])), (a_shelves_marks, .inl (cI, 8, .inl c_shelves_marks)), (a_shelves_sizes, .inl (cI, 8, .inl c_shelves_sizes)), (a_shelves_elements, .inl (cL, 320, .inr (.inl c_shelves_elements))), (a_refusals, .inl (cI, 5, .inl c_refusals))]
abbrev rm_M_copy : Room := { frames := 4, cells := 0, slots := 0, locals := 87 }
set_option maxRecDepth 100000 in
set_option maxHeartbeats 4000000 in
theorem s_M_copy_j14 (C : kC p l e rm_M_copy s m args below meth c D (tyG cI cL cZ) A 7 cX4_copy yX4_copy.cls (Cond.code yX4_copy cX4_copy 7 (some .int) :: WS) (some .int)) {X : kX} (hE : kEs X A s) {a_this : Nat} {a_now : Nat} {a_kept : Nat} {a_trial : Nat} {a_shelves : Nat} {a_tape : Nat} {a_paths : Nat} {a_sounds : Nat} {a_volumes : Nat} {a_refusals : Nat} {a_shelves_marks : Nat} {a_shelves_sizes : Nat} {a_shelves_elements : Nat} {c_isKept : Int32} {c_shelves_marks : (Nat → Int32)} {c_shelves_sizes : (Nat → Int32)} {c_shelves_elements : (Nat → Int64)} {c_refusals : (Nat → Int32)} {x : (Int32 × (Nat → Int64) × (Nat → Int32))} (h : f_M_copy_j14 c_shelves_elements c_refusals = some x) :
    kW p l e rm_M_copy s m args below meth c D A 7 (cells_M_copy cI cL cZ a_this a_now a_kept a_trial a_shelves a_tape a_paths a_sounds a_volumes a_refusals a_shelves_marks a_shelves_sizes a_shelves_elements c_isKept c_shelves_marks c_shelves_sizes c_shelves_elements c_refusals) [(0, .ref a_this)] (MQ below (kQi D A (cells_M_copy cI cL cZ a_this a_now a_kept a_trial a_shelves a_tape a_paths a_sounds a_volumes a_refusals a_shelves_marks a_shelves_sizes a_shelves_elements c_isKept c_shelves_marks c_shelves_sizes x.2.1 x.2.2) x.1) args s 0 0 A) 14 [] := by
  unfold f_M_copy_j14 at h
  refine k_aload_n C dX4_copy_14 0 rfl rfl ?_
  refine k_bipush C (v := (-2 : Int32)) dX4_copy_15 (by decide) ?_
  obtain ⟨x2, hx2, h⟩ := bindE h
  refine kcallU_i C (wc := (cells_M_refuse cI cL cZ a_this a_now a_kept a_trial a_shelves a_tape a_paths a_sounds a_volumes a_refusals c_isKept c_refusals)) (w1 := (cells_M_refuse cI cL cZ a_this a_now a_kept a_trial a_shelves a_tape a_paths a_sounds a_volumes a_refusals c_isKept x2.2)) (ws' := (cells_M_copy cI cL cZ a_this a_now a_kept a_trial a_shelves a_tape a_paths a_sounds a_volumes a_refusals a_shelves_marks a_shelves_sizes a_shelves_elements c_isKept c_shelves_marks c_shelves_sizes c_shelves_elements x2.2)) (r := x2.1) [0, 5] (fun H locs ls hP hD hS hF hz => krunV C (q0 := 0) (ci := 4) (c_M_refuse l D cI cL cZ H.size a_this a_now a_kept a_trial a_shelves a_tape a_paths a_sounds a_volumes a_refusals (-2 : Int32) c_isKept c_refusals x2 hx2) (cwV 1 C.2.2.2.2.1 (gV wq_12 wq_13 wq_14 wq_3 wq_11) rfl rfl rfl (by decide +kernel) ⟨(Nat.le_of_ble_eq_true rfl), (Nat.le_of_ble_eq_true rfl)⟩) rfl rfl kEnv_T rfl rfl (Nat.le_of_ble_eq_true rfl) dX4_copy_17 hP hD hz) rfl (by decide) rfl rfl ?_
  obtain rfl := Option.some.inj h
  exact kret_i C rfl dX4_copy_20
set_option maxRecDepth 100000 in
set_option maxHeartbeats 4000000 in
theorem s_M_copy_j79 (C : kC p l e rm_M_copy s m args below meth c D (tyG cI cL cZ) A 7 cX4_copy yX4_copy.cls (Cond.code yX4_copy cX4_copy 7 (some .int) :: WS) (some .int)) {X : kX} (hE : kEs X A s) {a_this : Nat} {a_now : Nat} {a_kept : Nat} {a_trial : Nat} {a_shelves : Nat} {a_tape : Nat} {a_paths : Nat} {a_sounds : Nat} {a_volumes : Nat} {a_refusals : Nat} {a_shelves_marks : Nat} {a_shelves_sizes : Nat} {a_shelves_elements : Nat} {c_isKept : Int32} {c_shelves_marks : (Nat → Int32)} {c_shelves_sizes : (Nat → Int32)} {c_shelves_elements : (Nat → Int64)} {c_refusals : (Nat → Int32)} {x : (Int32 × (Nat → Int64) × (Nat → Int32))} (h : f_M_copy_j79 c_shelves_elements c_refusals = some x) :
    kW p l e rm_M_copy s m args below meth c D A 7 (cells_M_copy cI cL cZ a_this a_now a_kept a_trial a_shelves a_tape a_paths a_sounds a_volumes a_refusals a_shelves_marks a_shelves_sizes a_shelves_elements c_isKept c_shelves_marks c_shelves_sizes c_shelves_elements c_refusals) [(0, .ref a_this)] (MQ below (kQi D A (cells_M_copy cI cL cZ a_this a_now a_kept a_trial a_shelves a_tape a_paths a_sounds a_volumes a_refusals a_shelves_marks a_shelves_sizes a_shelves_elements c_isKept c_shelves_marks c_shelves_sizes x.2.1 x.2.2) x.1) args s 0 0 A) 79 [] := by
  unfold f_M_copy_j79 at h
  refine k_aload_n C dX4_copy_79 0 rfl rfl ?_
  refine k_bipush C (v := (-2 : Int32)) dX4_copy_80 (by decide) ?_
  obtain ⟨x7, hx7, h⟩ := bindE h
  refine kcallU_i C (wc := (cells_M_refuse cI cL cZ a_this a_now a_kept a_trial a_shelves a_tape a_paths a_sounds a_volumes a_refusals c_isKept c_refusals)) (w1 := (cells_M_refuse cI cL cZ a_this a_now a_kept a_trial a_shelves a_tape a_paths a_sounds a_volumes a_refusals c_isKept x7.2)) (ws' := (cells_M_copy cI cL cZ a_this a_now a_kept a_trial a_shelves a_tape a_paths a_sounds a_volumes a_refusals a_shelves_marks a_shelves_sizes a_shelves_elements c_isKept c_shelves_marks c_shelves_sizes c_shelves_elements x7.2)) (r := x7.1) [0, 5] (fun H locs ls hP hD hS hF hz => krunV C (q0 := 0) (ci := 4) (c_M_refuse l D cI cL cZ H.size a_this a_now a_kept a_trial a_shelves a_tape a_paths a_sounds a_volumes a_refusals (-2 : Int32) c_isKept c_refusals x7 hx7) (cwV 1 C.2.2.2.2.1 (gV wq_12 wq_13 wq_14 wq_3 wq_11) rfl rfl rfl (by decide +kernel) ⟨(Nat.le_of_ble_eq_true rfl), (Nat.le_of_ble_eq_true rfl)⟩) rfl rfl kEnv_T rfl rfl (Nat.le_of_ble_eq_true rfl) dX4_copy_82 hP hD hz) rfl (by decide) rfl rfl ?_
  obtain rfl := Option.some.inj h
  exact kret_i C rfl dX4_copy_85
set_option maxRecDepth 100000 in
set_option maxHeartbeats 4000000 in
theorem s_M_copy (C : kC p l e rm_M_copy s m args below meth c D (tyG cI cL cZ) A 7 cX4_copy yX4_copy.cls (Cond.code yX4_copy cX4_copy 7 (some .int) :: WS) (some .int)) {X : kX} (hE : kEs X A s) {a_this : Nat} {a_now : Nat} {a_kept : Nat} {a_trial : Nat} {a_shelves : Nat} {a_tape : Nat} {a_paths : Nat} {a_sounds : Nat} {a_volumes : Nat} {a_refusals : Nat} {a_shelves_marks : Nat} {a_shelves_sizes : Nat} {a_shelves_elements : Nat} {v1 : Int32} {v2 : Int32} {v3 : Int32} {v4 : Int32} {v5 : Int32} {c_isKept : Int32} {c_shelves_marks : (Nat → Int32)} {c_shelves_sizes : (Nat → Int32)} {c_shelves_elements : (Nat → Int64)} {c_refusals : (Nat → Int32)} {x : (Int32 × (Nat → Int64) × (Nat → Int32))} (h : f_M_copy v1 v2 v3 v4 v5 c_shelves_marks c_shelves_sizes c_shelves_elements c_refusals = some x) :
    kW p l e rm_M_copy s m args below meth c D A 7 (cells_M_copy cI cL cZ a_this a_now a_kept a_trial a_shelves a_tape a_paths a_sounds a_volumes a_refusals a_shelves_marks a_shelves_sizes a_shelves_elements c_isKept c_shelves_marks c_shelves_sizes c_shelves_elements c_refusals) [(0, .ref a_this), (1, .int v1), (2, .int v2), (3, .int v3), (4, .int v4), (5, .int v5)] (MQ below (kQi D A (cells_M_copy cI cL cZ a_this a_now a_kept a_trial a_shelves a_tape a_paths a_sounds a_volumes a_refusals a_shelves_marks a_shelves_sizes a_shelves_elements c_isKept c_shelves_marks c_shelves_sizes x.2.1 x.2.2) x.1) args s 0 0 A) 0 [] := by
  unfold f_M_copy at h
  refine k_iload_n C dX4_copy_0 1 rfl rfl ?_
  obtain ⟨x1, hx1, h⟩ := bindE h
  refine kcallE_i C (r := x1) (fun H locs ls hP hD hS hF hz => krunS C (c_M_isShelf l D cI cL cZ H.size v1 x1 hx1) (va_cwS 1 C.2.2.2.2.1 (gS wq_10 wq_6 wq_3 wq_5) rfl rfl rfl (by decide +kernel) ⟨(Nat.le_of_ble_eq_true rfl), (Nat.le_of_ble_eq_true rfl)⟩) kEnv_T rfl rfl (Nat.le_of_ble_eq_true rfl) dX4_copy_1 hP hD hz) ?_
  refine k_if_eq C (tgt := 14) dX4_copy_4 (by decide) (fun c_4 => ?_) (fun c_4 => ?_)
  · have h := ifT c_4 h
    refine k_lv (lv' := [(0, .ref a_this)]) [0] rfl ?_
    exact s_M_copy_j14 C hE h
  · have h := ifF c_4 h
    refine k_iload_n C dX4_copy_7 2 rfl rfl ?_
    obtain ⟨x3, hx3, h⟩ := bindE h
    refine kcallE_i C (r := x3) (fun H locs ls hP hD hS hF hz => krunS C (c_M_isShelf l D cI cL cZ H.size v2 x3 hx3) (va_cwS 1 C.2.2.2.2.1 (gS wq_10 wq_6 wq_3 wq_5) rfl rfl rfl (by decide +kernel) ⟨(Nat.le_of_ble_eq_true rfl), (Nat.le_of_ble_eq_true rfl)⟩) kEnv_T rfl rfl (Nat.le_of_ble_eq_true rfl) dX4_copy_8 hP hD hz) ?_
    refine k_if_ne C (tgt := 21) dX4_copy_11 (by decide) (fun c_11 => ?_) (fun c_11 => ?_)
    · have h := ifF c_11 h
      refine k_aload_n C dX4_copy_21 0 rfl rfl ?_
      refine k_get C (C0 := RX4) (T := TX4) (N := 10) (fun w h => List.mem_cons_of_mem _ (us_M w h)) 0 rfl rfl 3 (by decide) (List.mem_cons_of_mem _ wq_15) rfl rfl dX4_copy_22 ?_
      refine k_iload_n C dX4_copy_25 1 rfl rfl ?_
      refine k_iload_n C dX4_copy_26 2 rfl rfl ?_
      obtain ⟨x4, hx4, h⟩ := bindE h
      refine kcallR_i C (wc := (cells_S_whyNoCopy cI cL cZ a_shelves a_shelves_marks a_shelves_sizes a_shelves_elements c_shelves_marks)) (r := x4) [1, 2] (fun H locs ls hP hD hS hF hz => krunV C (q0 := 0) (ci := 2) (c_S_whyNoCopy l D cI cL cZ X H.size a_shelves a_shelves_marks a_shelves_sizes a_shelves_elements v1 v2 c_shelves_marks x4 hx4) (cwV 2 C.2.2.2.2.1 (gV wq_49 wq_50 wq_51 wq_20 wq_48) rfl rfl rfl (by decide +kernel) ⟨(Nat.le_of_ble_eq_true rfl), (Nat.le_of_ble_eq_true rfl)⟩) rfl rfl (kEs_call hE hS hF) rfl rfl (Nat.le_of_ble_eq_true rfl) dX4_copy_27 hP hD hz) rfl (by decide) ?_
      refine k_istore C (lv' := [(6, .int x4), (0, .ref a_this), (1, .int v1), (2, .int v2), (3, .int v3), (4, .int v4), (5, .int v5)]) dX4_copy_30 (by decide) rfl ?_
      refine k_iload C dX4_copy_32 0 rfl ?_
      refine k_if_eq C (tgt := 44) dX4_copy_34 (by decide) (fun c_34 => ?_) (fun c_34 => ?_)
      · have h := ifT c_34 h
        refine k_iload_n C dX4_copy_44 4 rfl rfl ?_
        refine k_iload C dX4_copy_45 6 rfl ?_
        refine k_aload_n C dX4_copy_47 1 rfl rfl ?_
        refine k_get C (C0 := RX4) (T := TX4) (N := 10) (fun w h => List.mem_cons_of_mem _ (us_M w h)) 0 rfl rfl 3 (by decide) (List.mem_cons_of_mem _ wq_15) rfl rfl dX4_copy_48 ?_
        refine k_iload_n C dX4_copy_51 2 rfl rfl ?_
        obtain ⟨x5, hx5, h⟩ := bindE h
        refine kcallR_i C (wc := (cells_S_sizeOf cI cL cZ a_shelves a_shelves_marks a_shelves_sizes a_shelves_elements c_shelves_sizes)) (r := x5) [1, 3] (fun H locs ls hP hD hS hF hz => krunV C (q0 := 0) (ci := 2) (c_S_sizeOf l D cI cL cZ X H.size a_shelves a_shelves_marks a_shelves_sizes a_shelves_elements v1 c_shelves_sizes x5 hx5) (cwV 1 C.2.2.2.2.1 (gV wq_36 wq_27 wq_28 wq_20 wq_25) rfl rfl rfl (by decide +kernel) ⟨(Nat.le_of_ble_eq_true rfl), (Nat.le_of_ble_eq_true rfl)⟩) rfl rfl (kEs_call hE hS hF) rfl rfl (Nat.le_of_ble_eq_true rfl) dX4_copy_52 hP hD hz) rfl (by decide) ?_
        obtain ⟨x6, hx6, h⟩ := bindE h
        refine kcallE_i C (r := x6) (fun H locs ls hP hD hS hF hz => krunS C (c_M_isPart l D cI cL cZ H.size v3 v5 x5 x6 hx6) (va_cwS 3 C.2.2.2.2.1 (gS wq_52 wq_43 wq_3 wq_42) rfl rfl rfl (by decide +kernel) ⟨(Nat.le_of_ble_eq_true rfl), (Nat.le_of_ble_eq_true rfl)⟩) kEnv_T rfl rfl (Nat.le_of_ble_eq_true rfl) dX4_copy_55 hP hD hz) ?_
        refine k_if_eq C (tgt := 79) dX4_copy_58 (by decide) (fun c_58 => ?_) (fun c_58 => ?_)
        · have h := ifT c_58 h
          refine k_lv (lv' := [(0, .ref a_this)]) [1] rfl ?_
          exact s_M_copy_j79 C hE h
        · have h := ifF c_58 h
          refine k_iload C dX4_copy_61 5 rfl ?_
          refine k_iload C dX4_copy_63 6 rfl ?_
          refine k_aload_n C dX4_copy_65 1 rfl rfl ?_
          refine k_get C (C0 := RX4) (T := TX4) (N := 10) (fun w h => List.mem_cons_of_mem _ (us_M w h)) 0 rfl rfl 3 (by decide) (List.mem_cons_of_mem _ wq_15) rfl rfl dX4_copy_66 ?_
          refine k_iload_n C dX4_copy_69 3 rfl rfl ?_
          obtain ⟨x8, hx8, h⟩ := bindE h
          refine kcallR_i C (wc := (cells_S_sizeOf cI cL cZ a_shelves a_shelves_marks a_shelves_sizes a_shelves_elements c_shelves_sizes)) (r := x8) [1, 3] (fun H locs ls hP hD hS hF hz => krunV C (q0 := 0) (ci := 2) (c_S_sizeOf l D cI cL cZ X H.size a_shelves a_shelves_marks a_shelves_sizes a_shelves_elements v2 c_shelves_sizes x8 hx8) (cwV 1 C.2.2.2.2.1 (gV wq_36 wq_27 wq_28 wq_20 wq_25) rfl rfl rfl (by decide +kernel) ⟨(Nat.le_of_ble_eq_true rfl), (Nat.le_of_ble_eq_true rfl)⟩) rfl rfl (kEs_call hE hS hF) rfl rfl (Nat.le_of_ble_eq_true rfl) dX4_copy_70 hP hD hz) rfl (by decide) ?_
          obtain ⟨x9, hx9, h⟩ := bindE h
          refine kcallE_i C (r := x9) (fun H locs ls hP hD hS hF hz => krunS C (c_M_isPart l D cI cL cZ H.size v4 v5 x8 x9 hx9) (va_cwS 3 C.2.2.2.2.1 (gS wq_52 wq_43 wq_3 wq_42) rfl rfl rfl (by decide +kernel) ⟨(Nat.le_of_ble_eq_true rfl), (Nat.le_of_ble_eq_true rfl)⟩) kEnv_T rfl rfl (Nat.le_of_ble_eq_true rfl) dX4_copy_73 hP hD hz) ?_
          refine k_if_ne C (tgt := 86) dX4_copy_76 (by decide) (fun c_76 => ?_) (fun c_76 => ?_)
          · have h := ifF c_76 h
            refine k_aload_n C dX4_copy_86 1 rfl rfl ?_
            refine k_get C (C0 := RX4) (T := TX4) (N := 10) (fun w h => List.mem_cons_of_mem _ (us_M w h)) 0 rfl rfl 3 (by decide) (List.mem_cons_of_mem _ wq_15) rfl rfl dX4_copy_87 ?_
            refine k_iload_n C dX4_copy_90 2 rfl rfl ?_
            refine k_iload_n C dX4_copy_91 3 rfl rfl ?_
            refine k_iload_n C dX4_copy_92 4 rfl rfl ?_
            refine k_iload C dX4_copy_93 5 rfl ?_
            refine k_iload C dX4_copy_95 6 rfl ?_
            obtain ⟨x10, hx10, h⟩ := bindE h
            refine kcallU_v C (wc := (cells_S_move cI cL cZ a_shelves a_shelves_marks a_shelves_sizes a_shelves_elements c_shelves_sizes c_shelves_elements)) (w1 := (cells_S_move cI cL cZ a_shelves a_shelves_marks a_shelves_sizes a_shelves_elements c_shelves_sizes x10)) (ws' := (cells_M_copy cI cL cZ a_this a_now a_kept a_trial a_shelves a_tape a_paths a_sounds a_volumes a_refusals a_shelves_marks a_shelves_sizes a_shelves_elements c_isKept c_shelves_marks c_shelves_sizes x10 c_refusals)) [1, 3, 4] (fun H locs ls hP hD hS hF hz => krunV C (q0 := 0) (ci := 2) (c_S_move l D cI cL cZ X H.size a_shelves a_shelves_marks a_shelves_sizes a_shelves_elements v1 v2 v3 v4 v5 c_shelves_sizes c_shelves_elements x10 hx10) (cwV 5 C.2.2.2.2.1 (gV wq_54 wq_55 wq_56 wq_20 wq_53) rfl rfl rfl (by decide +kernel) ⟨(Nat.le_of_ble_eq_true rfl), (Nat.le_of_ble_eq_true rfl)⟩) rfl rfl (kEs_call hE hS hF) rfl rfl (Nat.le_of_ble_eq_true rfl) dX4_copy_97 hP hD hz) rfl (by decide) rfl rfl ?_
            refine k_iload C dX4_copy_100 6 rfl ?_
            obtain rfl := Option.some.inj h
            exact kret_i C rfl dX4_copy_102
          · have h := ifT c_76 h
            refine k_lv (lv' := [(0, .ref a_this)]) [1] rfl ?_
            exact s_M_copy_j79 C hE h
      · have h := ifF c_34 h
        refine k_aload_n C dX4_copy_37 1 rfl rfl ?_
        refine k_iload C dX4_copy_38 0 rfl ?_
        obtain ⟨x11, hx11, h⟩ := bindE h
        refine kcallU_i C (wc := (cells_M_refuse cI cL cZ a_this a_now a_kept a_trial a_shelves a_tape a_paths a_sounds a_volumes a_refusals c_isKept c_refusals)) (w1 := (cells_M_refuse cI cL cZ a_this a_now a_kept a_trial a_shelves a_tape a_paths a_sounds a_volumes a_refusals c_isKept x11.2)) (ws' := (cells_M_copy cI cL cZ a_this a_now a_kept a_trial a_shelves a_tape a_paths a_sounds a_volumes a_refusals a_shelves_marks a_shelves_sizes a_shelves_elements c_isKept c_shelves_marks c_shelves_sizes c_shelves_elements x11.2)) (r := x11.1) [0, 5] (fun H locs ls hP hD hS hF hz => krunV C (q0 := 0) (ci := 4) (c_M_refuse l D cI cL cZ H.size a_this a_now a_kept a_trial a_shelves a_tape a_paths a_sounds a_volumes a_refusals x4 c_isKept c_refusals x11 hx11) (cwV 1 C.2.2.2.2.1 (gV wq_12 wq_13 wq_14 wq_3 wq_11) rfl rfl rfl (by decide +kernel) ⟨(Nat.le_of_ble_eq_true rfl), (Nat.le_of_ble_eq_true rfl)⟩) rfl rfl kEnv_T rfl rfl (Nat.le_of_ble_eq_true rfl) dX4_copy_40 hP hD hz) rfl (by decide) rfl rfl ?_
        obtain rfl := Option.some.inj h
        exact kret_i C rfl dX4_copy_43
    · have h := ifT c_11 h
      refine k_lv (lv' := [(0, .ref a_this)]) [0] rfl ?_
      exact s_M_copy_j14 C hE h
theorem c_M_copy (l : Launch) (D : va_G) (cI : ClassId) (cL : ClassId) (cZ : ClassId) (X : kX) (sz : Nat) (a_this : Nat) (a_now : Nat) (a_kept : Nat) (a_trial : Nat) (a_shelves : Nat) (a_tape : Nat) (a_paths : Nat) (a_sounds : Nat) (a_volumes : Nat) (a_refusals : Nat) (a_shelves_marks : Nat) (a_shelves_sizes : Nat) (a_shelves_elements : Nat) (v1 : Int32) (v2 : Int32) (v3 : Int32) (v4 : Int32) (v5 : Int32) (c_isKept : Int32) (c_shelves_marks : (Nat → Int32)) (c_shelves_sizes : (Nat → Int32)) (c_shelves_elements : (Nat → Int64)) (c_refusals : (Nat → Int32)) (x : (Int32 × (Nat → Int64) × (Nat → Int32))) (h : f_M_copy v1 v2 v3 v4 v5 c_shelves_marks c_shelves_sizes c_shelves_elements c_refusals = some x) :
    Met l yX4_copy (Cond.code yX4_copy cX4_copy 7 (some .int) :: WS) rm_M_copy (kP D (tyG cI cL cZ) (kEs X (va_A (cells_M_copy cI cL cZ a_this a_now a_kept a_trial a_shelves a_tape a_paths a_sounds a_volumes a_refusals a_shelves_marks a_shelves_sizes a_shelves_elements c_isKept c_shelves_marks c_shelves_sizes c_shelves_elements c_refusals) sz)) [.ref a_this, .int v1, .int v2, .int v3, .int v4, .int v5] sz (cells_M_copy cI cL cZ a_this a_now a_kept a_trial a_shelves a_tape a_paths a_sounds a_volumes a_refusals a_shelves_marks a_shelves_sizes a_shelves_elements c_isKept c_shelves_marks c_shelves_sizes c_shelves_elements c_refusals)) (kQi D (va_A (cells_M_copy cI cL cZ a_this a_now a_kept a_trial a_shelves a_tape a_paths a_sounds a_volumes a_refusals a_shelves_marks a_shelves_sizes a_shelves_elements c_isKept c_shelves_marks c_shelves_sizes c_shelves_elements c_refusals) sz) (cells_M_copy cI cL cZ a_this a_now a_kept a_trial a_shelves a_tape a_paths a_sounds a_volumes a_refusals a_shelves_marks a_shelves_sizes a_shelves_elements c_isKept c_shelves_marks c_shelves_sizes x.2.1 x.2.2) x.1) 0 0 (va_A (cells_M_copy cI cL cZ a_this a_now a_kept a_trial a_shelves a_tape a_paths a_sounds a_volumes a_refusals a_shelves_marks a_shelves_sizes a_shelves_elements c_isKept c_shelves_marks c_shelves_sizes c_shelves_elements c_refusals) sz) :=
  kmet (by decide) (Nat.le_of_ble_eq_true rfl) rfl (fun p e s m below meth c C hE => s_M_copy C hE h)
abbrev cells_S_elementOf (cI : ClassId) (cL : ClassId) (cZ : ClassId) (a_this : Nat) (a_marks : Nat) (a_sizes : Nat) (a_elements : Nat) (c_sizes : (Nat → Int32)) (c_elements : (Nat → Int64)) : va_W := [(a_this, .inr (2, [.ref a_marks, .ref a_sizes, .ref a_elements])), (a_sizes, .inl (cI, 8, .inl c_sizes)), (a_elements, .inl (cL, 320, .inr (.inl c_elements)))]
abbrev rm_S_elementOf : Room := { frames := 2, cells := 0, slots := 0, locals := 41 }
set_option maxRecDepth 100000 in
set_option maxHeartbeats 4000000 in
theorem s_S_elementOf (C : kC p l e rm_S_elementOf s m args below meth c D (tyG cI cL cZ) A 3 cX2_elementOf yX2_elementOf.cls (Cond.code yX2_elementOf cX2_elementOf 3 (some .long) :: WS) (some .long)) {X : kX} (hE : kEs X A s) {a_this : Nat} {a_marks : Nat} {a_sizes : Nat} {a_elements : Nat} {v1 : Int32} {v2 : Int32} {c_sizes : (Nat → Int32)} {c_elements : (Nat → Int64)} {x : Int64} (h : f_S_elementOf v1 v2 c_sizes c_elements = some x) :
    kW p l e rm_S_elementOf s m args below meth c D A 3 (cells_S_elementOf cI cL cZ a_this a_marks a_sizes a_elements c_sizes c_elements) [(0, .ref a_this), (1, .int v1), (2, .int v2)] (MQ below (kQl D A (cells_S_elementOf cI cL cZ a_this a_marks a_sizes a_elements c_sizes c_elements) x) args s 0 0 A) 0 [] := by
  unfold f_S_elementOf at h
  refine k_iload_n C dX2_elementOf_0 2 rfl rfl ?_
  refine k_iconst C (v := (0 : Int32)) dX2_elementOf_1 (by decide) ?_
  refine k_aload_n C dX2_elementOf_2 0 rfl rfl ?_
  refine k_iload_n C dX2_elementOf_3 1 rfl rfl ?_
  obtain ⟨x1, hx1, h⟩ := bindE h
  refine kcallR_i C (wc := (cells_S_sizeOf cI cL cZ a_this a_marks a_sizes a_elements c_sizes)) (r := x1) [0, 1] (fun H locs ls hP hD hS hF hz => krunV C (q0 := 0) (ci := 2) (c_S_sizeOf l D cI cL cZ X H.size a_this a_marks a_sizes a_elements v1 c_sizes x1 hx1) (cwV 1 C.2.2.2.2.1 (gV wq_26 wq_27 wq_28 wq_20 wq_25) rfl rfl rfl (by decide +kernel) ⟨(Nat.le_of_ble_eq_true rfl), (Nat.le_of_ble_eq_true rfl)⟩) rfl rfl (kEs_call hE hS hF) rfl rfl (Nat.le_of_ble_eq_true rfl) dX2_elementOf_4 hP hD hz) rfl (by decide) ?_
  refine k_iconst C (v := (1 : Int32)) dX2_elementOf_7 (by decide) ?_
  refine k_isub C dX2_elementOf_8 ?_
  obtain ⟨x2, hx2, h⟩ := bindE h
  refine kcallE_i C (r := x2) (fun H locs ls hP hD hS hF hz => krunSN C (c_M_isWithin l D cI cL cZ H.size v2 (0 : Int32) (x1 - (1 : Int32)) x2 hx2) ⟨va_cnB 3 C.2.2.2.2.1 (gW wq_0) rfl rfl rfl (hE.2.2.2.2.2.2.2 (RX2, 33, yX4_isWithin) (by decide +kernel)) (C.2.2.2.2.1 _ (List.mem_cons_of_mem _ wq_3)) (by decide +kernel) ⟨(Nat.le_of_ble_eq_true rfl), (Nat.le_of_ble_eq_true rfl)⟩, C.2.2.2.2.1 _ (List.mem_cons_of_mem _ wq_2), trivial⟩ kEnv_T rfl rfl (Nat.le_of_ble_eq_true rfl) dX2_elementOf_9 hP hD hz) ?_
  refine k_if_eq C (tgt := 29) dX2_elementOf_12 (by decide) (fun c_12 => ?_) (fun c_12 => ?_)
  · have h := ifT c_12 h
    refine k_lconst C (v := (0 : Int64)) dX2_elementOf_29 (by decide) ?_
    obtain rfl := Option.some.inj h
    exact kret_l C rfl dX2_elementOf_30
  · have h := ifF c_12 h
    refine k_aload_n C dX2_elementOf_15 0 rfl rfl ?_
    refine k_get C (C0 := RX2) (T := TX2) (N := 3) (fun w h => List.mem_cons_of_mem _ (us_S w h)) 0 rfl rfl 2 (by decide) (List.mem_cons_of_mem _ wq_9) rfl rfl dX2_elementOf_16 ?_
    refine k_iload_n C dX2_elementOf_19 1 rfl rfl ?_
    refine k_bipush C (v := (40 : Int32)) dX2_elementOf_20 (by decide) ?_
    refine k_imul C dX2_elementOf_22 ?_
    refine k_iload_n C dX2_elementOf_23 2 rfl rfl ?_
    refine k_iadd C dX2_elementOf_24 ?_
    obtain ⟨x3, hx3, h⟩ := bindE h
    refine k_lald C 2 1 rfl rfl hx3 dX2_elementOf_25 ?_
    refine k_goto C (tgt := 30) dX2_elementOf_26 (by decide) ?_
    obtain rfl := Option.some.inj h
    exact kret_l C rfl dX2_elementOf_30
theorem c_S_elementOf (l : Launch) (D : va_G) (cI : ClassId) (cL : ClassId) (cZ : ClassId) (X : kX) (sz : Nat) (a_this : Nat) (a_marks : Nat) (a_sizes : Nat) (a_elements : Nat) (v1 : Int32) (v2 : Int32) (c_sizes : (Nat → Int32)) (c_elements : (Nat → Int64)) (x : Int64) (h : f_S_elementOf v1 v2 c_sizes c_elements = some x) :
    Met l yX2_elementOf (Cond.code yX2_elementOf cX2_elementOf 3 (some .long) :: WS) rm_S_elementOf (kP D (tyG cI cL cZ) (kEs X (va_A (cells_S_elementOf cI cL cZ a_this a_marks a_sizes a_elements c_sizes c_elements) sz)) [.ref a_this, .int v1, .int v2] sz (cells_S_elementOf cI cL cZ a_this a_marks a_sizes a_elements c_sizes c_elements)) (kQl D (va_A (cells_S_elementOf cI cL cZ a_this a_marks a_sizes a_elements c_sizes c_elements) sz) (cells_S_elementOf cI cL cZ a_this a_marks a_sizes a_elements c_sizes c_elements) x) 0 0 (va_A (cells_S_elementOf cI cL cZ a_this a_marks a_sizes a_elements c_sizes c_elements) sz) :=
  kmet (by decide) (Nat.le_of_ble_eq_true rfl) rfl (fun p e s m below meth c C hE => s_S_elementOf C hE h)
abbrev cells_M_element (cI : ClassId) (cL : ClassId) (cZ : ClassId) (a_this : Nat) (a_now : Nat) (a_kept : Nat) (a_trial : Nat) (a_shelves : Nat) (a_tape : Nat) (a_paths : Nat) (a_sounds : Nat) (a_volumes : Nat) (a_refusals : Nat) (a_shelves_marks : Nat) (a_shelves_sizes : Nat) (a_shelves_elements : Nat) (c_isKept : Int32) (c_shelves_sizes : (Nat → Int32)) (c_shelves_elements : (Nat → Int64)) : va_W := [(a_this, .inr (4, [.ref a_now, .ref a_kept, .ref a_trial, .ref a_shelves, .ref a_tape, .ref a_paths, .ref a_sounds, .ref a_volumes, .ref a_refusals, .int c_isKept])), (a_shelves, .inr (2, [.ref a_shelves_marks, .ref a_shelves_sizes, .ref a_shelves_elements])), (a_shelves_sizes, .inl (cI, 8, .inl c_shelves_sizes)), (a_shelves_elements, .inl (cL, 320, .inr (.inl c_shelves_elements)))]
abbrev rm_M_element : Room := { frames := 3, cells := 0, slots := 0, locals := 63 }
set_option maxRecDepth 100000 in
set_option maxHeartbeats 4000000 in
theorem s_M_element (C : kC p l e rm_M_element s m args below meth c D (tyG cI cL cZ) A 3 cX4_element yX4_element.cls (Cond.code yX4_element cX4_element 3 (some .long) :: WS) (some .long)) {X : kX} (hE : kEs X A s) {a_this : Nat} {a_now : Nat} {a_kept : Nat} {a_trial : Nat} {a_shelves : Nat} {a_tape : Nat} {a_paths : Nat} {a_sounds : Nat} {a_volumes : Nat} {a_refusals : Nat} {a_shelves_marks : Nat} {a_shelves_sizes : Nat} {a_shelves_elements : Nat} {v1 : Int32} {v2 : Int32} {c_isKept : Int32} {c_shelves_sizes : (Nat → Int32)} {c_shelves_elements : (Nat → Int64)} {x : Int64} (h : f_M_element v1 v2 c_shelves_sizes c_shelves_elements = some x) :
    kW p l e rm_M_element s m args below meth c D A 3 (cells_M_element cI cL cZ a_this a_now a_kept a_trial a_shelves a_tape a_paths a_sounds a_volumes a_refusals a_shelves_marks a_shelves_sizes a_shelves_elements c_isKept c_shelves_sizes c_shelves_elements) [(0, .ref a_this), (1, .int v1), (2, .int v2)] (MQ below (kQl D A (cells_M_element cI cL cZ a_this a_now a_kept a_trial a_shelves a_tape a_paths a_sounds a_volumes a_refusals a_shelves_marks a_shelves_sizes a_shelves_elements c_isKept c_shelves_sizes c_shelves_elements) x) args s 0 0 A) 0 [] := by
  unfold f_M_element at h
  refine k_aload_n C dX4_element_0 0 rfl rfl ?_
  refine k_get C (C0 := RX4) (T := TX4) (N := 10) (fun w h => List.mem_cons_of_mem _ (us_M w h)) 0 rfl rfl 3 (by decide) (List.mem_cons_of_mem _ wq_15) rfl rfl dX4_element_1 ?_
  refine k_iload_n C dX4_element_4 1 rfl rfl ?_
  refine k_iload_n C dX4_element_5 2 rfl rfl ?_
  obtain ⟨x1, hx1, h⟩ := bindE h
  refine kcallR_l C (wc := (cells_S_elementOf cI cL cZ a_shelves a_shelves_marks a_shelves_sizes a_shelves_elements c_shelves_sizes c_shelves_elements)) (r := x1) [1, 2, 3] (fun H locs ls hP hD hS hF hz => krunV C (q0 := 0) (ci := 2) (c_S_elementOf l D cI cL cZ X H.size a_shelves a_shelves_marks a_shelves_sizes a_shelves_elements v1 v2 c_shelves_sizes c_shelves_elements x1 hx1) (cwV 2 C.2.2.2.2.1 (gV wq_58 wq_59 wq_60 wq_20 wq_57) rfl rfl rfl (by decide +kernel) ⟨(Nat.le_of_ble_eq_true rfl), (Nat.le_of_ble_eq_true rfl)⟩) rfl rfl (kEs_call hE hS hF) rfl rfl (Nat.le_of_ble_eq_true rfl) dX4_element_6 hP hD hz) rfl (by decide) ?_
  obtain rfl := Option.some.inj h
  exact kret_l C rfl dX4_element_9
theorem c_M_element (l : Launch) (D : va_G) (cI : ClassId) (cL : ClassId) (cZ : ClassId) (X : kX) (sz : Nat) (a_this : Nat) (a_now : Nat) (a_kept : Nat) (a_trial : Nat) (a_shelves : Nat) (a_tape : Nat) (a_paths : Nat) (a_sounds : Nat) (a_volumes : Nat) (a_refusals : Nat) (a_shelves_marks : Nat) (a_shelves_sizes : Nat) (a_shelves_elements : Nat) (v1 : Int32) (v2 : Int32) (c_isKept : Int32) (c_shelves_sizes : (Nat → Int32)) (c_shelves_elements : (Nat → Int64)) (x : Int64) (h : f_M_element v1 v2 c_shelves_sizes c_shelves_elements = some x) :
    Met l yX4_element (Cond.code yX4_element cX4_element 3 (some .long) :: WS) rm_M_element (kP D (tyG cI cL cZ) (kEs X (va_A (cells_M_element cI cL cZ a_this a_now a_kept a_trial a_shelves a_tape a_paths a_sounds a_volumes a_refusals a_shelves_marks a_shelves_sizes a_shelves_elements c_isKept c_shelves_sizes c_shelves_elements) sz)) [.ref a_this, .int v1, .int v2] sz (cells_M_element cI cL cZ a_this a_now a_kept a_trial a_shelves a_tape a_paths a_sounds a_volumes a_refusals a_shelves_marks a_shelves_sizes a_shelves_elements c_isKept c_shelves_sizes c_shelves_elements)) (kQl D (va_A (cells_M_element cI cL cZ a_this a_now a_kept a_trial a_shelves a_tape a_paths a_sounds a_volumes a_refusals a_shelves_marks a_shelves_sizes a_shelves_elements c_isKept c_shelves_sizes c_shelves_elements) sz) (cells_M_element cI cL cZ a_this a_now a_kept a_trial a_shelves a_tape a_paths a_sounds a_volumes a_refusals a_shelves_marks a_shelves_sizes a_shelves_elements c_isKept c_shelves_sizes c_shelves_elements) x) 0 0 (va_A (cells_M_element cI cL cZ a_this a_now a_kept a_trial a_shelves a_tape a_paths a_sounds a_volumes a_refusals a_shelves_marks a_shelves_sizes a_shelves_elements c_isKept c_shelves_sizes c_shelves_elements) sz) :=
  kmet (by decide) (Nat.le_of_ble_eq_true rfl) rfl (fun p e s m below meth c C hE => s_M_element C hE h)
abbrev cells_M_holds (cI : ClassId) (cL : ClassId) (cZ : ClassId) (a_this : Nat) (a_now : Nat) (a_kept : Nat) (a_trial : Nat) (a_shelves : Nat) (a_tape : Nat) (a_paths : Nat) (a_sounds : Nat) (a_volumes : Nat) (a_refusals : Nat) (a_shelves_marks : Nat) (a_shelves_sizes : Nat) (a_shelves_elements : Nat) (c_isKept : Int32) (c_shelves_marks : (Nat → Int32)) : va_W := [(a_this, .inr (4, [.ref a_now, .ref a_kept, .ref a_trial, .ref a_shelves, .ref a_tape, .ref a_paths, .ref a_sounds, .ref a_volumes, .ref a_refusals, .int c_isKept])), (a_shelves, .inr (2, [.ref a_shelves_marks, .ref a_shelves_sizes, .ref a_shelves_elements])), (a_shelves_marks, .inl (cI, 8, .inl c_shelves_marks))]
abbrev rm_M_holds : Room := { frames := 2, cells := 0, slots := 0, locals := 41 }
set_option maxRecDepth 100000 in
set_option maxHeartbeats 4000000 in
theorem s_M_holds (C : kC p l e rm_M_holds s m args below meth c D (tyG cI cL cZ) A 2 cX4_holds yX4_holds.cls (Cond.code yX4_holds cX4_holds 2 (some .int) :: WS) (some .int)) {X : kX} (hE : kEs X A s) {a_this : Nat} {a_now : Nat} {a_kept : Nat} {a_trial : Nat} {a_shelves : Nat} {a_tape : Nat} {a_paths : Nat} {a_sounds : Nat} {a_volumes : Nat} {a_refusals : Nat} {a_shelves_marks : Nat} {a_shelves_sizes : Nat} {a_shelves_elements : Nat} {v1 : Int32} {c_isKept : Int32} {c_shelves_marks : (Nat → Int32)} {x : Int32} (h : f_M_holds v1 c_shelves_marks = some x) :
    kW p l e rm_M_holds s m args below meth c D A 2 (cells_M_holds cI cL cZ a_this a_now a_kept a_trial a_shelves a_tape a_paths a_sounds a_volumes a_refusals a_shelves_marks a_shelves_sizes a_shelves_elements c_isKept c_shelves_marks) [(0, .ref a_this), (1, .int v1)] (MQ below (kQi D A (cells_M_holds cI cL cZ a_this a_now a_kept a_trial a_shelves a_tape a_paths a_sounds a_volumes a_refusals a_shelves_marks a_shelves_sizes a_shelves_elements c_isKept c_shelves_marks) x) args s 0 0 A) 0 [] := by
  unfold f_M_holds at h
  refine k_aload_n C dX4_holds_0 0 rfl rfl ?_
  refine k_get C (C0 := RX4) (T := TX4) (N := 10) (fun w h => List.mem_cons_of_mem _ (us_M w h)) 0 rfl rfl 3 (by decide) (List.mem_cons_of_mem _ wq_15) rfl rfl dX4_holds_1 ?_
  refine k_iload_n C dX4_holds_4 1 rfl rfl ?_
  obtain ⟨x1, hx1, h⟩ := bindE h
  refine kcallR_i C (wc := (cells_S_heldBy cI cL cZ a_shelves a_shelves_marks a_shelves_sizes a_shelves_elements c_shelves_marks)) (r := x1) [1, 2] (fun H locs ls hP hD hS hF hz => krunV C (q0 := 0) (ci := 2) (c_S_heldBy l D cI cL cZ X H.size a_shelves a_shelves_marks a_shelves_sizes a_shelves_elements v1 c_shelves_marks x1 hx1) (cwV 1 C.2.2.2.2.1 (gV wq_61 wq_23 wq_24 wq_20 wq_21) rfl rfl rfl (by decide +kernel) ⟨(Nat.le_of_ble_eq_true rfl), (Nat.le_of_ble_eq_true rfl)⟩) rfl rfl (kEs_call hE hS hF) rfl rfl (Nat.le_of_ble_eq_true rfl) dX4_holds_5 hP hD hz) rfl (by decide) ?_
  obtain rfl := Option.some.inj h
  exact kret_i C rfl dX4_holds_8
theorem c_M_holds (l : Launch) (D : va_G) (cI : ClassId) (cL : ClassId) (cZ : ClassId) (X : kX) (sz : Nat) (a_this : Nat) (a_now : Nat) (a_kept : Nat) (a_trial : Nat) (a_shelves : Nat) (a_tape : Nat) (a_paths : Nat) (a_sounds : Nat) (a_volumes : Nat) (a_refusals : Nat) (a_shelves_marks : Nat) (a_shelves_sizes : Nat) (a_shelves_elements : Nat) (v1 : Int32) (c_isKept : Int32) (c_shelves_marks : (Nat → Int32)) (x : Int32) (h : f_M_holds v1 c_shelves_marks = some x) :
    Met l yX4_holds (Cond.code yX4_holds cX4_holds 2 (some .int) :: WS) rm_M_holds (kP D (tyG cI cL cZ) (kEs X (va_A (cells_M_holds cI cL cZ a_this a_now a_kept a_trial a_shelves a_tape a_paths a_sounds a_volumes a_refusals a_shelves_marks a_shelves_sizes a_shelves_elements c_isKept c_shelves_marks) sz)) [.ref a_this, .int v1] sz (cells_M_holds cI cL cZ a_this a_now a_kept a_trial a_shelves a_tape a_paths a_sounds a_volumes a_refusals a_shelves_marks a_shelves_sizes a_shelves_elements c_isKept c_shelves_marks)) (kQi D (va_A (cells_M_holds cI cL cZ a_this a_now a_kept a_trial a_shelves a_tape a_paths a_sounds a_volumes a_refusals a_shelves_marks a_shelves_sizes a_shelves_elements c_isKept c_shelves_marks) sz) (cells_M_holds cI cL cZ a_this a_now a_kept a_trial a_shelves a_tape a_paths a_sounds a_volumes a_refusals a_shelves_marks a_shelves_sizes a_shelves_elements c_isKept c_shelves_marks) x) 0 0 (va_A (cells_M_holds cI cL cZ a_this a_now a_kept a_trial a_shelves a_tape a_paths a_sounds a_volumes a_refusals a_shelves_marks a_shelves_sizes a_shelves_elements c_isKept c_shelves_marks) sz) :=
  kmet (by decide) (Nat.le_of_ble_eq_true rfl) rfl (fun p e s m below meth c C hE => s_M_holds C hE h)
abbrev cells_D_count (cI : ClassId) (cL : ClassId) (cZ : ClassId) (a_this : Nat) (a_stones : Nat) (a_kinds : Nat) (a_weights : Nat) (a_chances : Nat) (c_width : Int32) (c_rain : Int32) (c_ear : Int32) (c_walkers : Int32) (c_seed : Int32) : va_W := [(a_this, .inr (0, [.ref a_stones, .ref a_kinds, .ref a_weights, .ref a_chances, .int c_width, .int c_rain, .int c_ear, .int c_walkers, .int c_seed]))]
abbrev rm_D_count : Room := { frames := 1, cells := 0, slots := 0, locals := 32 }
set_option maxRecDepth 100000 in
set_option maxHeartbeats 4000000 in
theorem s_D_count (C : kC p l e rm_D_count s m args below meth c D (tyG cI cL cZ) A 1 cX0_count yX0_count.cls (Cond.code yX0_count cX0_count 1 (some .int) :: WS) (some .int)) {a_this : Nat} {a_stones : Nat} {a_kinds : Nat} {a_weights : Nat} {a_chances : Nat} {c_width : Int32} {c_rain : Int32} {c_ear : Int32} {c_walkers : Int32} {c_seed : Int32} {x : Int32} (h : f_D_count c_walkers = some x) :
    kW p l e rm_D_count s m args below meth c D A 1 (cells_D_count cI cL cZ a_this a_stones a_kinds a_weights a_chances c_width c_rain c_ear c_walkers c_seed) [(0, .ref a_this)] (MQ below (kQi D A (cells_D_count cI cL cZ a_this a_stones a_kinds a_weights a_chances c_width c_rain c_ear c_walkers c_seed) x) args s 0 0 A) 0 [] := by
  unfold f_D_count at h
  refine k_aload_n C dX0_count_0 0 rfl rfl ?_
  refine k_get C (C0 := RX0) (T := TX0) (N := 9) (fun w h => List.mem_cons_of_mem _ (us_D w h)) 0 rfl rfl 7 (by decide) (List.mem_cons_of_mem _ wq_62) rfl rfl dX0_count_1 ?_
  refine k_bipush C (v := (8 : Int32)) dX0_count_4 (by decide) ?_
  refine k_mmin C (List.mem_cons_of_mem _ wq_63) (List.mem_cons_of_mem _ wq_64) (List.mem_cons_of_mem _ wq_65) (List.mem_cons_of_mem _ wq_66) (Nat.le_of_ble_eq_true rfl) (Nat.le_of_ble_eq_true rfl) dX0_count_6 ?_
  obtain rfl := Option.some.inj h
  exact kret_i C rfl dX0_count_9
theorem c_D_count (l : Launch) (D : va_G) (cI : ClassId) (cL : ClassId) (cZ : ClassId) (sz : Nat) (a_this : Nat) (a_stones : Nat) (a_kinds : Nat) (a_weights : Nat) (a_chances : Nat) (c_width : Int32) (c_rain : Int32) (c_ear : Int32) (c_walkers : Int32) (c_seed : Int32) (x : Int32) (h : f_D_count c_walkers = some x) :
    Met l yX0_count (Cond.code yX0_count cX0_count 1 (some .int) :: WS) rm_D_count (kP D (tyG cI cL cZ) kTrue [.ref a_this] sz (cells_D_count cI cL cZ a_this a_stones a_kinds a_weights a_chances c_width c_rain c_ear c_walkers c_seed)) (kQi D (va_A (cells_D_count cI cL cZ a_this a_stones a_kinds a_weights a_chances c_width c_rain c_ear c_walkers c_seed) sz) (cells_D_count cI cL cZ a_this a_stones a_kinds a_weights a_chances c_width c_rain c_ear c_walkers c_seed) x) 0 0 (va_A (cells_D_count cI cL cZ a_this a_stones a_kinds a_weights a_chances c_width c_rain c_ear c_walkers c_seed) sz) :=
  kmet (by decide) (Nat.le_of_ble_eq_true rfl) rfl (fun p e s m below meth c C hE => s_D_count C h)
abbrev cells_M_isFeet (cI : ClassId) (cL : ClassId) (cZ : ClassId) (a_this : Nat) (a_now : Nat) (a_kept : Nat) (a_trial : Nat) (a_shelves : Nat) (a_tape : Nat) (a_paths : Nat) (a_sounds : Nat) (a_volumes : Nat) (a_refusals : Nat) (a_now_stones : Nat) (a_now_kinds : Nat) (a_now_weights : Nat) (a_now_chances : Nat) (c_isKept : Int32) (c_now_width : Int32) (c_now_rain : Int32) (c_now_ear : Int32) (c_now_walkers : Int32) (c_now_seed : Int32) : va_W := [(a_this, .inr (4, [.ref a_now, .ref a_kept, .ref a_trial, .ref a_shelves, .ref a_tape, .ref a_paths, .ref a_sounds, .ref a_volumes, .ref a_refusals, .int c_isKept])), (a_now, .inr (0, [.ref a_now_stones, .ref a_now_kinds, .ref a_now_weights, .ref a_now_chances, .int c_now_width, .int c_now_rain, .int c_now_ear, .int c_now_walkers, .int c_now_seed]))]
abbrev rm_M_isFeet : Room := { frames := 2, cells := 0, slots := 0, locals := 52 }

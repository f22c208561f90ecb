variable {p : Program} {l : Launch} {e : Env} {s : State} {m : MethodId} {args : Array Value} {below : List Frame} {meth : Method} {c : Code} {D : va_G} {A : Nat → Prop} {cI cL cZ : ClassId} {Q : State → Prop}
set_option maxRecDepth 100000 in
set_option maxHeartbeats 4000000 in
theorem s_R_drive_b17 (C : kC p l e rm_R_drive s m args below meth c D (tyG cI cL cZ) A 3 cX5_drive yX5_drive.cls (Cond.code yX5_drive cX5_drive 3 (some .int) :: WS) (some .int)) {X : kX} (hE : kEs X A s) {a_this : Nat} {a_gravel : Nat} {a_kind : Nat} {a_own : Nat} {a_likely : Nat} {a_tape : Nat} {a_holding : Nat} {a_rowLength : Nat} {a_rowOf : Nat} {a_refusals : Nat} {a_old : Nat} {a_ahead : Nat} {a_cost : Nat} {a_may : Nat} {a_rest : Nat} {a_way : Nat} {v1 : Int32} {v2 : Int32} {c_n : Int32} {c_rain : Int32} {c_ear : Int32} {c_many : Int32} {c_seed : Int32} {c_taped : Int32} {c_from : Int32} {c_to : Int32} {c_token : Int32} {c_value : Int32} {c_imaged : Int32} {c_gravel : (Nat → Int32)} {c_kind : (Nat → Int32)} {c_own : (Nat → Int32)} {c_likely : (Nat → Int32)} {c_tape : (Nat → Int32)} {c_refusals : (Nat → Int32)} {c_ahead : (Nat → Int32)} {x : ((Int32 × Int32 × Int32 × Int32 × Int32 × Int32 × Int32 × Int32 × Int32 × Int32 × (Nat → Int32) × (Nat → Int32) × (Nat → Int32) × (Nat → Int32)) ⊕ ((Int32 × Int32 × Int32 × Int32 × Int32 × Int32 × Int32 × Int32 × Int32 × (Nat → Int32) × (Nat → Int32) × (Nat → Int32) × (Nat → Int32)) ⊕ (Int32 × Int32 × Int32 × Int32 × Int32 × Int32 × Int32 × Int32 × (Nat → Int32) × (Nat → Int32) × (Nat → Int32) × (Nat → Int32))))} (h : f_R_drive_b17 c_taped c_tape v1 v2 c_n c_rain c_ear c_many c_from c_to c_token c_value c_gravel c_kind c_own c_likely = some x)
    (kc : ∀ s', x = .inl s' → kW p l e rm_R_drive s m args below meth c D A 3 (cells_R_drive cI cL cZ a_this a_gravel a_kind a_own a_likely a_tape a_holding a_rowLength a_rowOf a_refusals a_old a_ahead a_cost a_may a_rest a_way s'.2.2.1 s'.2.2.2.1 s'.2.2.2.2.1 s'.2.2.2.2.2.1 c_seed c_taped s'.2.2.2.2.2.2.1 s'.2.2.2.2.2.2.2.1 s'.2.2.2.2.2.2.2.2.1 s'.2.2.2.2.2.2.2.2.2.1 c_imaged s'.2.2.2.2.2.2.2.2.2.2.1 s'.2.2.2.2.2.2.2.2.2.2.2.1 s'.2.2.2.2.2.2.2.2.2.2.2.2.1 s'.2.2.2.2.2.2.2.2.2.2.2.2.2 c_tape c_refusals c_ahead) [(0, .ref a_this), (1, .int s'.1), (2, .int s'.2.1)] Q 17 [])
    (k0 : ∀ r, x = .inr (.inl r) → kW p l e rm_R_drive s m args below meth c D A 3 (cells_R_drive cI cL cZ a_this a_gravel a_kind a_own a_likely a_tape a_holding a_rowLength a_rowOf a_refusals a_old a_ahead a_cost a_may a_rest a_way r.2.1 r.2.2.1 r.2.2.2.1 r.2.2.2.2.1 c_seed c_taped r.2.2.2.2.2.1 r.2.2.2.2.2.2.1 r.2.2.2.2.2.2.2.1 r.2.2.2.2.2.2.2.2.1 c_imaged r.2.2.2.2.2.2.2.2.2.1 r.2.2.2.2.2.2.2.2.2.2.1 r.2.2.2.2.2.2.2.2.2.2.2.1 r.2.2.2.2.2.2.2.2.2.2.2.2 c_tape c_refusals c_ahead) [(0, .ref a_this), (1, .int r.1)] Q 53 [])
    (k1 : ∀ r, x = .inr (.inr r) → kW p l e rm_R_drive s m args below meth c D A 3 (cells_R_drive cI cL cZ a_this a_gravel a_kind a_own a_likely a_tape a_holding a_rowLength a_rowOf a_refusals a_old a_ahead a_cost a_may a_rest a_way r.1 r.2.1 r.2.2.1 r.2.2.2.1 c_seed c_taped r.2.2.2.2.1 r.2.2.2.2.2.1 r.2.2.2.2.2.2.1 r.2.2.2.2.2.2.2.1 c_imaged r.2.2.2.2.2.2.2.2.1 r.2.2.2.2.2.2.2.2.2.1 r.2.2.2.2.2.2.2.2.2.2.1 r.2.2.2.2.2.2.2.2.2.2.2 c_tape c_refusals c_ahead) [(0, .ref a_this)] Q 78 []) :
    kW p l e rm_R_drive s m args below meth c D A 3 (cells_R_drive cI cL cZ a_this a_gravel a_kind a_own a_likely a_tape a_holding a_rowLength a_rowOf a_refusals a_old a_ahead a_cost a_may a_rest a_way c_n c_rain c_ear c_many c_seed c_taped c_from c_to c_token c_value c_imaged c_gravel c_kind c_own c_likely c_tape c_refusals c_ahead) [(0, .ref a_this), (1, .int v1), (2, .int v2)] Q 17 [] := by
  unfold f_R_drive_b17 at h
  refine k_iload_n C dX5_drive_17 2 rfl rfl ?_
  refine k_if_eq C (tgt := 78) dX5_drive_18 (by decide) (fun c_18 => ?_) (fun c_18 => ?_)
  · have h := ifT c_18 h
    refine k_lv (lv' := [(0, .ref a_this)]) [0] rfl ?_
    exact k1 _ (Option.some.inj h).symm
  · have h := ifF c_18 h
    refine k_aload_n C dX5_drive_21 0 rfl rfl ?_
    obtain ⟨x2, hx2, h⟩ := bindE h
    refine kcallU_v C (wc := (cells_R_next cI cL cZ a_this a_gravel a_kind a_own a_likely a_tape a_holding a_rowLength a_rowOf a_refusals a_old a_ahead a_cost a_may a_rest a_way c_n c_rain c_ear c_many c_seed c_taped c_from c_to c_token c_value c_imaged c_tape)) (w1 := (cells_R_next cI cL cZ a_this a_gravel a_kind a_own a_likely a_tape a_holding a_rowLength a_rowOf a_refusals a_old a_ahead a_cost a_may a_rest a_way c_n c_rain c_ear c_many c_seed c_taped x2.1 x2.2.1 x2.2.2.1 x2.2.2.2 c_imaged c_tape)) (ws' := (cells_R_drive cI cL cZ a_this a_gravel a_kind a_own a_likely a_tape a_holding a_rowLength a_rowOf a_refusals a_old a_ahead a_cost a_may a_rest a_way c_n c_rain c_ear c_many c_seed c_taped x2.1 x2.2.1 x2.2.2.1 x2.2.2.2 c_imaged c_gravel c_kind c_own c_likely c_tape c_refusals c_ahead)) [0, 5] (fun H locs ls hP hD hS hF hz => krunV C (q0 := 0) (ci := 5) (c_R_next l D cI cL cZ H.size a_this a_gravel a_kind a_own a_likely a_tape a_holding a_rowLength a_rowOf a_refusals a_old a_ahead a_cost a_may a_rest a_way c_n c_rain c_ear c_many c_seed c_taped c_from c_to c_token c_value c_imaged c_tape x2 hx2) (cwV 0 C.2.2.2.2.1 (gV wq_623 wq_624 wq_625 wq_551 wq_622) rfl rfl rfl (by decide +kernel) ⟨(Nat.le_of_ble_eq_true rfl), (Nat.le_of_ble_eq_true rfl)⟩) rfl rfl kEnv_T rfl rfl (Nat.le_of_ble_eq_true rfl) dX5_drive_22 hP hD hz) rfl (by decide) rfl rfl ?_
    refine k_aload_n C dX5_drive_25 0 rfl rfl ?_
    obtain ⟨x3, hx3, h⟩ := bindE h
    refine kcallU_i C (wc := (cells_R_statement cI cL cZ a_this a_gravel a_kind a_own a_likely a_tape a_holding a_rowLength a_rowOf a_refusals a_old a_ahead a_cost a_may a_rest a_way c_n c_rain c_ear c_many c_seed c_taped x2.1 x2.2.1 x2.2.2.1 x2.2.2.2 c_imaged c_gravel c_kind c_own c_likely c_tape)) (w1 := (cells_R_statement cI cL cZ a_this a_gravel a_kind a_own a_likely a_tape a_holding a_rowLength a_rowOf a_refusals a_old a_ahead a_cost a_may a_rest a_way x3.2.1 x3.2.2.1 x3.2.2.2.1 x3.2.2.2.2.1 c_seed c_taped x3.2.2.2.2.2.1 x3.2.2.2.2.2.2.1 x3.2.2.2.2.2.2.2.1 x3.2.2.2.2.2.2.2.2.1 c_imaged x3.2.2.2.2.2.2.2.2.2.1 x3.2.2.2.2.2.2.2.2.2.2.1 x3.2.2.2.2.2.2.2.2.2.2.2.1 x3.2.2.2.2.2.2.2.2.2.2.2.2 c_tape)) (ws' := (cells_R_drive cI cL cZ a_this a_gravel a_kind a_own a_likely a_tape a_holding a_rowLength a_rowOf a_refusals a_old a_ahead a_cost a_may a_rest a_way x3.2.1 x3.2.2.1 x3.2.2.2.1 x3.2.2.2.2.1 c_seed c_taped x3.2.2.2.2.2.1 x3.2.2.2.2.2.2.1 x3.2.2.2.2.2.2.2.1 x3.2.2.2.2.2.2.2.2.1 c_imaged x3.2.2.2.2.2.2.2.2.2.1 x3.2.2.2.2.2.2.2.2.2.2.1 x3.2.2.2.2.2.2.2.2.2.2.2.1 x3.2.2.2.2.2.2.2.2.2.2.2.2 c_tape c_refusals c_ahead)) (r := x3.1) [0, 1, 2, 3, 4, 5] (fun H locs ls hP hD hS hF hz => krunV C (q0 := 0) (ci := 5) (c_R_statement l D cI cL cZ X H.size a_this a_gravel a_kind a_own a_likely a_tape a_holding a_rowLength a_rowOf a_refusals a_old a_ahead a_cost a_may a_rest a_way c_n c_rain c_ear c_many c_seed c_taped x2.1 x2.2.1 x2.2.2.1 x2.2.2.2 c_imaged c_gravel c_kind c_own c_likely c_tape x3 hx3) (cwV 0 C.2.2.2.2.1 (gV wq_645 wq_646 wq_647 wq_551 wq_644) rfl rfl rfl (by decide +kernel) ⟨(Nat.le_of_ble_eq_true rfl), (Nat.le_of_ble_eq_true rfl)⟩) rfl rfl (kEs_call hE hS hF) rfl rfl (Nat.le_of_ble_eq_true rfl) dX5_drive_26 hP hD hz) rfl (by decide) rfl rfl ?_
    refine k_istore_n C (lv' := [(2, .int x3.1), (0, .ref a_this), (1, .int v1)]) dX5_drive_29 rfl (by decide) rfl ?_
    refine k_iload_n C dX5_drive_30 0 rfl rfl ?_
    refine k_if_ne C (tgt := 37) dX5_drive_31 (by decide) (fun c_31 => ?_) (fun c_31 => ?_)
    · have h := ifF c_31 h
      refine k_iinc C (v := (v1 + (1 : Int32))) (lv' := [(1, .int (v1 + (1 : Int32))), (2, .int x3.1), (0, .ref a_this)]) dX5_drive_37 2 rfl rfl (by decide) rfl ?_
      refine k_aload_n C dX5_drive_40 2 rfl rfl ?_
      obtain ⟨x4, hx4, h⟩ := bindE h
      refine kcallU_v C (wc := (cells_R_next cI cL cZ a_this a_gravel a_kind a_own a_likely a_tape a_holding a_rowLength a_rowOf a_refusals a_old a_ahead a_cost a_may a_rest a_way x3.2.1 x3.2.2.1 x3.2.2.2.1 x3.2.2.2.2.1 c_seed c_taped x3.2.2.2.2.2.1 x3.2.2.2.2.2.2.1 x3.2.2.2.2.2.2.2.1 x3.2.2.2.2.2.2.2.2.1 c_imaged c_tape)) (w1 := (cells_R_next cI cL cZ a_this a_gravel a_kind a_own a_likely a_tape a_holding a_rowLength a_rowOf a_refusals a_old a_ahead a_cost a_may a_rest a_way x3.2.1 x3.2.2.1 x3.2.2.2.1 x3.2.2.2.2.1 c_seed c_taped x4.1 x4.2.1 x4.2.2.1 x4.2.2.2 c_imaged c_tape)) (ws' := (cells_R_drive cI cL cZ a_this a_gravel a_kind a_own a_likely a_tape a_holding a_rowLength a_rowOf a_refusals a_old a_ahead a_cost a_may a_rest a_way x3.2.1 x3.2.2.1 x3.2.2.2.1 x3.2.2.2.2.1 c_seed c_taped x4.1 x4.2.1 x4.2.2.1 x4.2.2.2 c_imaged x3.2.2.2.2.2.2.2.2.2.1 x3.2.2.2.2.2.2.2.2.2.2.1 x3.2.2.2.2.2.2.2.2.2.2.2.1 x3.2.2.2.2.2.2.2.2.2.2.2.2 c_tape c_refusals c_ahead)) [0, 5] (fun H locs ls hP hD hS hF hz => krunV C (q0 := 0) (ci := 5) (c_R_next l D cI cL cZ H.size a_this a_gravel a_kind a_own a_likely a_tape a_holding a_rowLength a_rowOf a_refusals a_old a_ahead a_cost a_may a_rest a_way x3.2.1 x3.2.2.1 x3.2.2.2.1 x3.2.2.2.2.1 c_seed c_taped x3.2.2.2.2.2.1 x3.2.2.2.2.2.2.1 x3.2.2.2.2.2.2.2.1 x3.2.2.2.2.2.2.2.2.1 c_imaged c_tape x4 hx4) (cwV 0 C.2.2.2.2.1 (gV wq_623 wq_624 wq_625 wq_551 wq_622) rfl rfl rfl (by decide +kernel) ⟨(Nat.le_of_ble_eq_true rfl), (Nat.le_of_ble_eq_true rfl)⟩) rfl rfl kEnv_T rfl rfl (Nat.le_of_ble_eq_true rfl) dX5_drive_41 hP hD hz) rfl (by decide) rfl rfl ?_
      refine k_aload_n C dX5_drive_44 2 rfl rfl ?_
      refine k_get C (C0 := RX5) (T := TX5) (N := 26) (fun w h => List.mem_cons_of_mem _ (us_R w h)) 0 rfl rfl 13 (by decide) (List.mem_cons_of_mem _ wq_618) rfl rfl dX5_drive_45 ?_
      refine k_bipush C (v := (101 : Int32)) dX5_drive_48 (by decide) ?_
      refine k_icmp_ne C (tgt := 60) dX5_drive_50 (by decide) (fun c_50 => ?_) (fun c_50 => ?_)
      · have h := ifF c_50 h
        refine k_aload_n C dX5_drive_60 2 rfl rfl ?_
        refine k_get C (C0 := RX5) (T := TX5) (N := 26) (fun w h => List.mem_cons_of_mem _ (us_R w h)) 0 rfl rfl 13 (by decide) (List.mem_cons_of_mem _ wq_618) rfl rfl dX5_drive_61 ?_
        refine k_bipush C (v := (59 : Int32)) dX5_drive_64 (by decide) ?_
        refine k_icmp_ne C (tgt := 73) dX5_drive_66 (by decide) (fun c_66 => ?_) (fun c_66 => ?_)
        · have h := ifF c_66 h
          refine k_iconst C (v := (0 : Int32)) dX5_drive_73 (by decide) ?_
          refine k_istore_n C (lv' := [(2, .int (0 : Int32)), (1, .int (v1 + (1 : Int32))), (0, .ref a_this)]) dX5_drive_74 rfl (by decide) rfl ?_
          refine k_goto C (tgt := 17) dX5_drive_75 (by decide) ?_
          refine k_lv (lv' := [(0, .ref a_this), (1, .int (v1 + (1 : Int32))), (2, .int (0 : Int32))]) [2, 1, 0] rfl ?_
          exact kc _ (Option.some.inj h).symm
        · have h := ifT c_66 h
          refine k_iconst C (v := (1 : Int32)) dX5_drive_69 (by decide) ?_
          refine k_goto C (tgt := 74) dX5_drive_70 (by decide) ?_
          refine k_istore_n C (lv' := [(2, .int (1 : Int32)), (1, .int (v1 + (1 : Int32))), (0, .ref a_this)]) dX5_drive_74 rfl (by decide) rfl ?_
          refine k_goto C (tgt := 17) dX5_drive_75 (by decide) ?_
          refine k_lv (lv' := [(0, .ref a_this), (1, .int (v1 + (1 : Int32))), (2, .int (1 : Int32))]) [2, 1, 0] rfl ?_
          exact kc _ (Option.some.inj h).symm
      · have h := ifT c_50 h
        refine k_lv (lv' := [(0, .ref a_this), (1, .int (v1 + (1 : Int32)))]) [2, 0] rfl ?_
        exact k0 _ (Option.some.inj h).symm
    · have h := ifT c_31 h
      refine k_goto C (tgt := 17) dX5_drive_34 (by decide) ?_
      refine k_lv (lv' := [(0, .ref a_this), (1, .int v1), (2, .int x3.1)]) [1, 2, 0] rfl ?_
      exact kc _ (Option.some.inj h).symm
set_option maxRecDepth 100000 in
set_option maxHeartbeats 4000000 in
theorem s_R_drive_l17 (C : kC p l e rm_R_drive s m args below meth c D (tyG cI cL cZ) A 3 cX5_drive yX5_drive.cls (Cond.code yX5_drive cX5_drive 3 (some .int) :: WS) (some .int)) {X : kX} (hE : kEs X A s) {a_this : Nat} {a_gravel : Nat} {a_kind : Nat} {a_own : Nat} {a_likely : Nat} {a_tape : Nat} {a_holding : Nat} {a_rowLength : Nat} {a_rowOf : Nat} {a_refusals : Nat} {a_old : Nat} {a_ahead : Nat} {a_cost : Nat} {a_may : Nat} {a_rest : Nat} {a_way : Nat} {v1 : Int32} {v2 : Int32} {c_n : Int32} {c_rain : Int32} {c_ear : Int32} {c_many : Int32} {c_seed : Int32} {c_taped : Int32} {c_from : Int32} {c_to : Int32} {c_token : Int32} {c_value : Int32} {c_imaged : Int32} {c_gravel : (Nat → Int32)} {c_kind : (Nat → Int32)} {c_own : (Nat → Int32)} {c_likely : (Nat → Int32)} {c_tape : (Nat → Int32)} {c_refusals : (Nat → Int32)} {c_ahead : (Nat → Int32)} {x : ((Int32 × Int32 × Int32 × Int32 × Int32 × Int32 × Int32 × Int32 × Int32 × (Nat → Int32) × (Nat → Int32) × (Nat → Int32) × (Nat → Int32)) ⊕ (Int32 × Int32 × Int32 × Int32 × Int32 × Int32 × Int32 × Int32 × (Nat → Int32) × (Nat → Int32) × (Nat → Int32) × (Nat → Int32)))} (h : f_R_drive_l17 c_taped c_tape v1 v2 c_n c_rain c_ear c_many c_from c_to c_token c_value c_gravel c_kind c_own c_likely = some x)
    (k0 : ∀ r, x = (.inl r) → kW p l e rm_R_drive s m args below meth c D A 3 (cells_R_drive cI cL cZ a_this a_gravel a_kind a_own a_likely a_tape a_holding a_rowLength a_rowOf a_refusals a_old a_ahead a_cost a_may a_rest a_way r.2.1 r.2.2.1 r.2.2.2.1 r.2.2.2.2.1 c_seed c_taped r.2.2.2.2.2.1 r.2.2.2.2.2.2.1 r.2.2.2.2.2.2.2.1 r.2.2.2.2.2.2.2.2.1 c_imaged r.2.2.2.2.2.2.2.2.2.1 r.2.2.2.2.2.2.2.2.2.2.1 r.2.2.2.2.2.2.2.2.2.2.2.1 r.2.2.2.2.2.2.2.2.2.2.2.2 c_tape c_refusals c_ahead) [(0, .ref a_this), (1, .int r.1)] Q 53 [])
    (k1 : ∀ r, x = (.inr r) → kW p l e rm_R_drive s m args below meth c D A 3 (cells_R_drive cI cL cZ a_this a_gravel a_kind a_own a_likely a_tape a_holding a_rowLength a_rowOf a_refusals a_old a_ahead a_cost a_may a_rest a_way r.1 r.2.1 r.2.2.1 r.2.2.2.1 c_seed c_taped r.2.2.2.2.1 r.2.2.2.2.2.1 r.2.2.2.2.2.2.1 r.2.2.2.2.2.2.2.1 c_imaged r.2.2.2.2.2.2.2.2.1 r.2.2.2.2.2.2.2.2.2.1 r.2.2.2.2.2.2.2.2.2.2.1 r.2.2.2.2.2.2.2.2.2.2.2 c_tape c_refusals c_ahead) [(0, .ref a_this)] Q 78 []) :
    kW p l e rm_R_drive s m args below meth c D A 3 (cells_R_drive cI cL cZ a_this a_gravel a_kind a_own a_likely a_tape a_holding a_rowLength a_rowOf a_refusals a_old a_ahead a_cost a_may a_rest a_way c_n c_rain c_ear c_many c_seed c_taped c_from c_to c_token c_value c_imaged c_gravel c_kind c_own c_likely c_tape c_refusals c_ahead) [(0, .ref a_this), (1, .int v1), (2, .int v2)] Q 17 [] := by
  unfold f_R_drive_l17 at h
  exact iter_W (body := fun s => f_R_drive_b17 c_taped c_tape s.1 s.2.1 s.2.2.1 s.2.2.2.1 s.2.2.2.2.1 s.2.2.2.2.2.1 s.2.2.2.2.2.2.1 s.2.2.2.2.2.2.2.1 s.2.2.2.2.2.2.2.2.1 s.2.2.2.2.2.2.2.2.2.1 s.2.2.2.2.2.2.2.2.2.2.1 s.2.2.2.2.2.2.2.2.2.2.2.1 s.2.2.2.2.2.2.2.2.2.2.2.2.1 s.2.2.2.2.2.2.2.2.2.2.2.2.2) (r := x) (T := fun sg => kW p l e rm_R_drive s m args below meth c D A 3 (cells_R_drive cI cL cZ a_this a_gravel a_kind a_own a_likely a_tape a_holding a_rowLength a_rowOf a_refusals a_old a_ahead a_cost a_may a_rest a_way sg.2.2.1 sg.2.2.2.1 sg.2.2.2.2.1 sg.2.2.2.2.2.1 c_seed c_taped sg.2.2.2.2.2.2.1 sg.2.2.2.2.2.2.2.1 sg.2.2.2.2.2.2.2.2.1 sg.2.2.2.2.2.2.2.2.2.1 c_imaged sg.2.2.2.2.2.2.2.2.2.2.1 sg.2.2.2.2.2.2.2.2.2.2.2.1 sg.2.2.2.2.2.2.2.2.2.2.2.2.1 sg.2.2.2.2.2.2.2.2.2.2.2.2.2 c_tape c_refusals c_ahead) [(0, .ref a_this), (1, .int sg.1), (2, .int sg.2.1)] Q 17 []) (fun sg y hy hc _ hr => s_R_drive_b17 C hE (v1 := sg.1) (v2 := sg.2.1) (c_n := sg.2.2.1) (c_rain := sg.2.2.2.1) (c_ear := sg.2.2.2.2.1) (c_many := sg.2.2.2.2.2.1) (c_seed := c_seed) (c_taped := c_taped) (c_from := sg.2.2.2.2.2.2.1) (c_to := sg.2.2.2.2.2.2.2.1) (c_token := sg.2.2.2.2.2.2.2.2.1) (c_value := sg.2.2.2.2.2.2.2.2.2.1) (c_imaged := c_imaged) (c_gravel := sg.2.2.2.2.2.2.2.2.2.2.1) (c_kind := sg.2.2.2.2.2.2.2.2.2.2.2.1) (c_own := sg.2.2.2.2.2.2.2.2.2.2.2.2.1) (c_likely := sg.2.2.2.2.2.2.2.2.2.2.2.2.2) (c_tape := c_tape) (c_refusals := c_refusals) (c_ahead := c_ahead) (x := y) hy hc (fun r e => k0 r (hr _ e).symm) (fun r e => k1 r (hr _ e).symm)) FUEL (v1, v2, c_n, c_rain, c_ear, c_many, c_from, c_to, c_token, c_value, c_gravel, c_kind, c_own, c_likely) h
set_option maxRecDepth 100000 in
set_option maxHeartbeats 4000000 in
theorem s_R_drive (C : kC p l e rm_R_drive s m args below meth c D (tyG cI cL cZ) A 3 cX5_drive yX5_drive.cls (Cond.code yX5_drive cX5_drive 3 (some .int) :: WS) (some .int)) {X : kX} (hE : kEs X A s) {a_this : Nat} {a_gravel : Nat} {a_kind : Nat} {a_own : Nat} {a_likely : Nat} {a_tape : Nat} {a_holding : Nat} {a_rowLength : Nat} {a_rowOf : Nat} {a_refusals : Nat} {a_old : Nat} {a_ahead : Nat} {a_cost : Nat} {a_may : Nat} {a_rest : Nat} {a_way : Nat} {c_n : Int32} {c_rain : Int32} {c_ear : Int32} {c_many : Int32} {c_seed : Int32} {c_taped : Int32} {c_from : Int32} {c_to : Int32} {c_token : Int32} {c_value : Int32} {c_imaged : Int32} {c_gravel : (Nat → Int32)} {c_kind : (Nat → Int32)} {c_own : (Nat → Int32)} {c_likely : (Nat → Int32)} {c_tape : (Nat → Int32)} {c_refusals : (Nat → Int32)} {c_ahead : (Nat → Int32)} {x : (Int32 × Int32 × Int32 × Int32 × Int32 × Int32 × Int32 × Int32 × Int32 × Int32 × Int32 × (Nat → Int32) × (Nat → Int32) × (Nat → Int32) × (Nat → Int32) × (Nat → Int32) × (Nat → Int32))} (h : f_R_drive c_n c_rain c_ear c_many c_seed c_taped c_from c_to c_token c_value c_gravel c_kind c_own c_likely c_tape c_refusals c_ahead = some x) :
    kW p l e rm_R_drive s m args below meth c D A 3 (cells_R_drive cI cL cZ a_this a_gravel a_kind a_own a_likely a_tape a_holding a_rowLength a_rowOf a_refusals a_old a_ahead a_cost a_may a_rest a_way c_n c_rain c_ear c_many c_seed c_taped c_from c_to c_token c_value c_imaged c_gravel c_kind c_own c_likely c_tape c_refusals c_ahead) [(0, .ref a_this)] (MQ below (kQi D A (cells_R_drive cI cL cZ a_this a_gravel a_kind a_own a_likely a_tape a_holding a_rowLength a_rowOf a_refusals a_old a_ahead a_cost a_may a_rest a_way x.2.1 x.2.2.1 x.2.2.2.1 x.2.2.2.2.1 x.2.2.2.2.2.1 x.2.2.2.2.2.2.1 x.2.2.2.2.2.2.2.1 x.2.2.2.2.2.2.2.2.1 x.2.2.2.2.2.2.2.2.2.1 x.2.2.2.2.2.2.2.2.2.2.1 c_imaged x.2.2.2.2.2.2.2.2.2.2.2.1 x.2.2.2.2.2.2.2.2.2.2.2.2.1 x.2.2.2.2.2.2.2.2.2.2.2.2.2.1 x.2.2.2.2.2.2.2.2.2.2.2.2.2.2.1 c_tape x.2.2.2.2.2.2.2.2.2.2.2.2.2.2.2.1 x.2.2.2.2.2.2.2.2.2.2.2.2.2.2.2.2) x.1) args s 0 0 A) 0 [] := by
  unfold f_R_drive at h
  refine k_aload_n C dX5_drive_0 0 rfl rfl ?_
  refine k_aload_n C dX5_drive_1 0 rfl rfl ?_
  refine k_get C (C0 := RX5) (T := TX5) (N := 26) (fun w h => List.mem_cons_of_mem _ (us_R w h)) 0 rfl rfl 21 (by decide) (List.mem_cons_of_mem _ wq_639) rfl rfl dX5_drive_2 ?_
  obtain ⟨x1, hx1, h⟩ := bindE h
  refine kcallU_v C (wc := (cells_R_keep cI cL cZ a_this a_gravel a_kind a_own a_likely a_tape a_holding a_rowLength a_rowOf a_refusals a_old a_ahead a_cost a_may a_rest a_way a_ahead c_n c_rain c_ear c_many c_seed c_taped c_from c_to c_token c_value c_imaged c_gravel c_kind c_own c_likely c_ahead)) (w1 := (cells_R_keep cI cL cZ a_this a_gravel a_kind a_own a_likely a_tape a_holding a_rowLength a_rowOf a_refusals a_old a_ahead a_cost a_may a_rest a_way a_ahead c_n c_rain c_ear c_many c_seed c_taped c_from c_to c_token c_value c_imaged c_gravel c_kind c_own c_likely x1)) (ws' := (cells_R_drive cI cL cZ a_this a_gravel a_kind a_own a_likely a_tape a_holding a_rowLength a_rowOf a_refusals a_old a_ahead a_cost a_may a_rest a_way c_n c_rain c_ear c_many c_seed c_taped c_from c_to c_token c_value c_imaged c_gravel c_kind c_own c_likely c_tape c_refusals x1)) [0, 1, 2, 3, 4, 7] (fun H locs ls hP hD hS hF hz => krunV C (q0 := 0) (ci := 5) (c_R_keep l D cI cL cZ H.size a_this a_gravel a_kind a_own a_likely a_tape a_holding a_rowLength a_rowOf a_refusals a_old a_ahead a_cost a_may a_rest a_way a_ahead c_n c_rain c_ear c_many c_seed c_taped c_from c_to c_token c_value c_imaged c_gravel c_kind c_own c_likely c_ahead x1 hx1) (cwV 1 C.2.2.2.2.1 (gV wq_641 wq_642 wq_643 wq_551 wq_640) rfl rfl rfl (by decide +kernel) ⟨(Nat.le_of_ble_eq_true rfl), (Nat.le_of_ble_eq_true rfl)⟩) rfl rfl kEnv_T rfl rfl (Nat.le_of_ble_eq_true rfl) dX5_drive_5 hP hD hz) rfl (by decide) rfl rfl ?_
  refine k_aload_n C dX5_drive_8 0 rfl rfl ?_
  refine k_iconst C (v := (0 : Int32)) dX5_drive_9 (by decide) ?_
  refine k_put C (C0 := RX5) (T := TX5) (N := 26) (ws' := (cells_R_drive cI cL cZ a_this a_gravel a_kind a_own a_likely a_tape a_holding a_rowLength a_rowOf a_refusals a_old a_ahead a_cost a_may a_rest a_way c_n c_rain c_ear c_many c_seed c_taped c_from (0 : Int32) c_token c_value c_imaged c_gravel c_kind c_own c_likely c_tape c_refusals x1)) (fun w h => List.mem_cons_of_mem _ (us_R w h)) tyX5 tyX5_ok nmX5 0 rfl rfl 12 (by decide) (List.mem_cons_of_mem _ wq_610) rfl rfl (tyX5_ok 12 (by decide)) rfl rfl (Nat.le_of_ble_eq_true rfl) rfl dX5_drive_10 ?_
  refine k_iconst C (v := (0 : Int32)) dX5_drive_13 (by decide) ?_
  refine k_istore_n C (lv' := [(1, .int (0 : Int32)), (0, .ref a_this)]) dX5_drive_14 rfl (by decide) rfl ?_
  refine k_iconst C (v := (1 : Int32)) dX5_drive_15 (by decide) ?_
  refine k_istore_n C (lv' := [(2, .int (1 : Int32)), (1, .int (0 : Int32)), (0, .ref a_this)]) dX5_drive_16 rfl (by decide) rfl ?_
  obtain ⟨x5, hx5, h⟩ := bindE h
  refine k_lv (lv' := [(0, .ref a_this), (1, .int (0 : Int32)), (2, .int (1 : Int32))]) [2, 1, 0] rfl ?_
  refine s_R_drive_l17 C hE hx5 ?_ ?_
  · intro x6 ex6
    subst ex6
    have h := sumL h
    refine k_aload_n C dX5_drive_53 0 rfl rfl ?_
    refine k_iconst C (v := (0 : Int32)) dX5_drive_54 (by decide) ?_
    refine k_put C (C0 := RX5) (T := TX5) (N := 26) (ws' := (cells_R_drive cI cL cZ a_this a_gravel a_kind a_own a_likely a_tape a_holding a_rowLength a_rowOf a_refusals a_old a_ahead a_cost a_may a_rest a_way x6.2.1 x6.2.2.1 x6.2.2.2.1 x6.2.2.2.2.1 c_seed (0 : Int32) x6.2.2.2.2.2.1 x6.2.2.2.2.2.2.1 x6.2.2.2.2.2.2.2.1 x6.2.2.2.2.2.2.2.2.1 c_imaged x6.2.2.2.2.2.2.2.2.2.1 x6.2.2.2.2.2.2.2.2.2.2.1 x6.2.2.2.2.2.2.2.2.2.2.2.1 x6.2.2.2.2.2.2.2.2.2.2.2.2 c_tape c_refusals x1)) (fun w h => List.mem_cons_of_mem _ (us_R w h)) tyX5 tyX5_ok nmX5 0 rfl rfl 9 (by decide) (List.mem_cons_of_mem _ wq_608) rfl rfl (tyX5_ok 9 (by decide)) rfl rfl (Nat.le_of_ble_eq_true rfl) rfl dX5_drive_55 ?_
    refine k_iload_n C dX5_drive_58 1 rfl rfl ?_
    obtain rfl := Option.some.inj h
    exact kret_i C rfl dX5_drive_59
  · intro x7 ex7
    subst ex7
    have h := sumR h
    refine k_aload_n C dX5_drive_78 0 rfl rfl ?_
    refine k_aload_n C dX5_drive_79 0 rfl rfl ?_
    refine k_get C (C0 := RX5) (T := TX5) (N := 26) (fun w h => List.mem_cons_of_mem _ (us_R w h)) 0 rfl rfl 21 (by decide) (List.mem_cons_of_mem _ wq_639) rfl rfl dX5_drive_80 ?_
    obtain ⟨x8, hx8, h⟩ := bindE h
    refine kcallU_v C (wc := (cells_R_again cI cL cZ a_this a_gravel a_kind a_own a_likely a_tape a_holding a_rowLength a_rowOf a_refusals a_old a_ahead a_cost a_may a_rest a_way a_ahead x7.1 x7.2.1 x7.2.2.1 x7.2.2.2.1 c_seed c_taped x7.2.2.2.2.1 x7.2.2.2.2.2.1 x7.2.2.2.2.2.2.1 x7.2.2.2.2.2.2.2.1 c_imaged x7.2.2.2.2.2.2.2.2.1 x7.2.2.2.2.2.2.2.2.2.1 x7.2.2.2.2.2.2.2.2.2.2.1 x7.2.2.2.2.2.2.2.2.2.2.2 x1)) (w1 := (cells_R_again cI cL cZ a_this a_gravel a_kind a_own a_likely a_tape a_holding a_rowLength a_rowOf a_refusals a_old a_ahead a_cost a_may a_rest a_way a_ahead x8.1 x8.2.1 x8.2.2.1 x8.2.2.2.1 x8.2.2.2.2.1 c_taped x7.2.2.2.2.1 x7.2.2.2.2.2.1 x7.2.2.2.2.2.2.1 x7.2.2.2.2.2.2.2.1 c_imaged x8.2.2.2.2.2.1 x8.2.2.2.2.2.2.1 x8.2.2.2.2.2.2.2.1 x8.2.2.2.2.2.2.2.2 x1)) (ws' := (cells_R_drive cI cL cZ a_this a_gravel a_kind a_own a_likely a_tape a_holding a_rowLength a_rowOf a_refusals a_old a_ahead a_cost a_may a_rest a_way x8.1 x8.2.1 x8.2.2.1 x8.2.2.2.1 x8.2.2.2.2.1 c_taped x7.2.2.2.2.1 x7.2.2.2.2.2.1 x7.2.2.2.2.2.2.1 x7.2.2.2.2.2.2.2.1 c_imaged x8.2.2.2.2.2.1 x8.2.2.2.2.2.2.1 x8.2.2.2.2.2.2.2.1 x8.2.2.2.2.2.2.2.2 c_tape c_refusals x1)) [0, 1, 2, 3, 4, 7] (fun H locs ls hP hD hS hF hz => krunV C (q0 := 0) (ci := 5) (c_R_again l D cI cL cZ H.size a_this a_gravel a_kind a_own a_likely a_tape a_holding a_rowLength a_rowOf a_refusals a_old a_ahead a_cost a_may a_rest a_way a_ahead x7.1 x7.2.1 x7.2.2.1 x7.2.2.2.1 c_seed c_taped x7.2.2.2.2.1 x7.2.2.2.2.2.1 x7.2.2.2.2.2.2.1 x7.2.2.2.2.2.2.2.1 c_imaged x7.2.2.2.2.2.2.2.2.1 x7.2.2.2.2.2.2.2.2.2.1 x7.2.2.2.2.2.2.2.2.2.2.1 x7.2.2.2.2.2.2.2.2.2.2.2 x1 x8 hx8) (cwV 1 C.2.2.2.2.1 (gV wq_649 wq_650 wq_651 wq_551 wq_648) rfl rfl rfl (by decide +kernel) ⟨(Nat.le_of_ble_eq_true rfl), (Nat.le_of_ble_eq_true rfl)⟩) rfl rfl kEnv_T rfl rfl (Nat.le_of_ble_eq_true rfl) dX5_drive_83 hP hD hz) rfl (by decide) rfl rfl ?_
    refine k_aload_n C dX5_drive_86 0 rfl rfl ?_
    refine k_iconst C (v := (0 : Int32)) dX5_drive_87 (by decide) ?_
    refine k_put C (C0 := RX5) (T := TX5) (N := 26) (ws' := (cells_R_drive cI cL cZ a_this a_gravel a_kind a_own a_likely a_tape a_holding a_rowLength a_rowOf a_refusals a_old a_ahead a_cost a_may a_rest a_way x8.1 x8.2.1 x8.2.2.1 x8.2.2.2.1 x8.2.2.2.2.1 (0 : Int32) x7.2.2.2.2.1 x7.2.2.2.2.2.1 x7.2.2.2.2.2.2.1 x7.2.2.2.2.2.2.2.1 c_imaged x8.2.2.2.2.2.1 x8.2.2.2.2.2.2.1 x8.2.2.2.2.2.2.2.1 x8.2.2.2.2.2.2.2.2 c_tape c_refusals x1)) (fun w h => List.mem_cons_of_mem _ (us_R w h)) tyX5 tyX5_ok nmX5 0 rfl rfl 9 (by decide) (List.mem_cons_of_mem _ wq_608) rfl rfl (tyX5_ok 9 (by decide)) rfl rfl (Nat.le_of_ble_eq_true rfl) rfl dX5_drive_88 ?_
    refine k_aload_n C dX5_drive_91 0 rfl rfl ?_
    refine k_bipush C (v := (-2 : Int32)) dX5_drive_92 (by decide) ?_
    obtain ⟨x9, hx9, h⟩ := bindE h
    refine kcallU_i C (wc := (cells_R_no cI cL cZ a_this a_gravel a_kind a_own a_likely a_tape a_holding a_rowLength a_rowOf a_refusals a_old a_ahead a_cost a_may a_rest a_way x8.1 x8.2.1 x8.2.2.1 x8.2.2.2.1 x8.2.2.2.2.1 (0 : Int32) x7.2.2.2.2.1 x7.2.2.2.2.2.1 x7.2.2.2.2.2.2.1 x7.2.2.2.2.2.2.2.1 c_imaged c_refusals)) (w1 := (cells_R_no cI cL cZ a_this a_gravel a_kind a_own a_likely a_tape a_holding a_rowLength a_rowOf a_refusals a_old a_ahead a_cost a_may a_rest a_way x8.1 x8.2.1 x8.2.2.1 x8.2.2.2.1 x8.2.2.2.2.1 (0 : Int32) x7.2.2.2.2.1 x7.2.2.2.2.2.1 x7.2.2.2.2.2.2.1 x7.2.2.2.2.2.2.2.1 c_imaged x9.2)) (ws' := (cells_R_drive cI cL cZ a_this a_gravel a_kind a_own a_likely a_tape a_holding a_rowLength a_rowOf a_refusals a_old a_ahead a_cost a_may a_rest a_way x8.1 x8.2.1 x8.2.2.1 x8.2.2.2.1 x8.2.2.2.2.1 (0 : Int32) x7.2.2.2.2.1 x7.2.2.2.2.2.1 x7.2.2.2.2.2.2.1 x7.2.2.2.2.2.2.2.1 c_imaged x8.2.2.2.2.2.1 x8.2.2.2.2.2.2.1 x8.2.2.2.2.2.2.2.1 x8.2.2.2.2.2.2.2.2 c_tape x9.2 x1)) (r := x9.1) [0, 6] (fun H locs ls hP hD hS hF hz => krunV C (q0 := 0) (ci := 5) (c_R_no l D cI cL cZ H.size a_this a_gravel a_kind a_own a_likely a_tape a_holding a_rowLength a_rowOf a_refusals a_old a_ahead a_cost a_may a_rest a_way (-2 : Int32) x8.1 x8.2.1 x8.2.2.1 x8.2.2.2.1 x8.2.2.2.2.1 (0 : Int32) x7.2.2.2.2.1 x7.2.2.2.2.2.1 x7.2.2.2.2.2.2.1 x7.2.2.2.2.2.2.2.1 c_imaged c_refusals x9 hx9) (cwV 1 C.2.2.2.2.1 (gV wq_558 wq_559 wq_560 wq_551 wq_557) rfl rfl rfl (by decide +kernel) ⟨(Nat.le_of_ble_eq_true rfl), (Nat.le_of_ble_eq_true rfl)⟩) rfl rfl kEnv_T rfl rfl (Nat.le_of_ble_eq_true rfl) dX5_drive_94 hP hD hz) rfl (by decide) rfl rfl ?_
    refine k_pop C dX5_drive_97 rfl ?_
    refine k_bipush C (v := (-20 : Int32)) dX5_drive_98 (by decide) ?_
    refine k_aload_n C dX5_drive_100 0 rfl rfl ?_
    refine k_get C (C0 := RX5) (T := TX5) (N := 26) (fun w h => List.mem_cons_of_mem _ (us_R w h)) 0 rfl rfl 11 (by decide) (List.mem_cons_of_mem _ wq_611) rfl rfl dX5_drive_101 ?_
    refine k_isub C dX5_drive_104 ?_
    obtain rfl := Option.some.inj h
    exact kret_i C rfl dX5_drive_105
theorem c_R_drive (l : Launch) (D : va_G) (cI : ClassId) (cL : ClassId) (cZ : ClassId) (X : kX) (sz : Nat) (a_this : Nat) (a_gravel : Nat) (a_kind : Nat) (a_own : Nat) (a_likely : Nat) (a_tape : Nat) (a_holding : Nat) (a_rowLength : Nat) (a_rowOf : Nat) (a_refusals : Nat) (a_old : Nat) (a_ahead : Nat) (a_cost : Nat) (a_may : Nat) (a_rest : Nat) (a_way : Nat) (c_n : Int32) (c_rain : Int32) (c_ear : Int32) (c_many : Int32) (c_seed : Int32) (c_taped : Int32) (c_from : Int32) (c_to : Int32) (c_token : Int32) (c_value : Int32) (c_imaged : Int32) (c_gravel : (Nat → Int32)) (c_kind : (Nat → Int32)) (c_own : (Nat → Int32)) (c_likely : (Nat → Int32)) (c_tape : (Nat → Int32)) (c_refusals : (Nat → Int32)) (c_ahead : (Nat → Int32)) (x : (Int32 × Int32 × Int32 × Int32 × Int32 × Int32 × Int32 × Int32 × Int32 × Int32 × Int32 × (Nat → Int32) × (Nat → Int32) × (Nat → Int32) × (Nat → Int32) × (Nat → Int32) × (Nat → Int32))) (h : f_R_drive c_n c_rain c_ear c_many c_seed c_taped c_from c_to c_token c_value c_gravel c_kind c_own c_likely c_tape c_refusals c_ahead = some x) :
    Met l yX5_drive (Cond.code yX5_drive cX5_drive 3 (some .int) :: WS) rm_R_drive (kP D (tyG cI cL cZ) (kEs X (va_A (cells_R_drive cI cL cZ a_this a_gravel a_kind a_own a_likely a_tape a_holding a_rowLength a_rowOf a_refusals a_old a_ahead a_cost a_may a_rest a_way c_n c_rain c_ear c_many c_seed c_taped c_from c_to c_token c_value c_imaged c_gravel c_kind c_own c_likely c_tape c_refusals c_ahead) sz)) [.ref a_this] sz (cells_R_drive cI cL cZ a_this a_gravel a_kind a_own a_likely a_tape a_holding a_rowLength a_rowOf a_refusals a_old a_ahead a_cost a_may a_rest a_way c_n c_rain c_ear c_many c_seed c_taped c_from c_to c_token c_value c_imaged c_gravel c_kind c_own c_likely c_tape c_refusals c_ahead)) (kQi D (va_A (cells_R_drive cI cL cZ a_this a_gravel a_kind a_own a_likely a_tape a_holding a_rowLength a_rowOf a_refusals a_old a_ahead a_cost a_may a_rest a_way c_n c_rain c_ear c_many c_seed c_taped c_from c_to c_token c_value c_imaged c_gravel c_kind c_own c_likely c_tape c_refusals c_ahead) sz) (cells_R_drive cI cL cZ a_this a_gravel a_kind a_own a_likely a_tape a_holding a_rowLength a_rowOf a_refusals a_old a_ahead a_cost a_may a_rest a_way x.2.1 x.2.2.1 x.2.2.2.1 x.2.2.2.2.1 x.2.2.2.2.2.1 x.2.2.2.2.2.2.1 x.2.2.2.2.2.2.2.1 x.2.2.2.2.2.2.2.2.1 x.2.2.2.2.2.2.2.2.2.1 x.2.2.2.2.2.2.2.2.2.2.1 c_imaged x.2.2.2.2.2.2.2.2.2.2.2.1 x.2.2.2.2.2.2.2.2.2.2.2.2.1 x.2.2.2.2.2.2.2.2.2.2.2.2.2.1 x.2.2.2.2.2.2.2.2.2.2.2.2.2.2.1 c_tape x.2.2.2.2.2.2.2.2.2.2.2.2.2.2.2.1 x.2.2.2.2.2.2.2.2.2.2.2.2.2.2.2.2) x.1) 0 0 (va_A (cells_R_drive cI cL cZ a_this a_gravel a_kind a_own a_likely a_tape a_holding a_rowLength a_rowOf a_refusals a_old a_ahead a_cost a_may a_rest a_way c_n c_rain c_ear c_many c_seed c_taped c_from c_to c_token c_value c_imaged c_gravel c_kind c_own c_likely c_tape c_refusals c_ahead) sz) :=
  kmet (by decide) (Nat.le_of_ble_eq_true rfl) rfl (fun p e s m below meth c C hE => s_R_drive C hE h)
abbrev cells_R_feetOf (cI : ClassId) (cL : ClassId) (cZ : ClassId) (a_this : Nat) (a_gravel : Nat) (a_kind : Nat) (a_own : Nat) (a_likely : Nat) (a_tape : Nat) (a_holding : Nat) (a_rowLength : Nat) (a_rowOf : Nat) (a_refusals : Nat) (a_old : Nat) (a_ahead : Nat) (a_cost : Nat) (a_may : Nat) (a_rest : Nat) (a_way : Nat) (c_n : Int32) (c_rain : Int32) (c_ear : Int32) (c_many : Int32) (c_seed : Int32) (c_taped : Int32) (c_from : Int32) (c_to : Int32) (c_token : Int32) (c_value : Int32) (c_imaged : Int32) (c_kind : (Nat → Int32)) (c_own : (Nat → Int32)) (c_likely : (Nat → Int32)) (c_refusals : (Nat → Int32)) : va_W := [(a_this, .inr (5, [.int c_n, .ref a_gravel, .int c_rain, .int c_ear, .int c_many, .ref a_kind, .ref a_own, .ref a_likely, .int c_seed, .int c_taped, .ref a_tape, .int c_from, .int c_to, .int c_token, .int c_value, .ref a_holding, .ref a_rowLength, .ref a_rowOf, .ref a_refusals, .int c_imaged, .ref a_old, .ref a_ahead, .ref a_cost, .ref a_may, .ref a_rest, .ref a_way])), (a_kind, .inl (cI, 8, .inl c_kind)), (a_own, .inl (cI, 8, .inl c_own)), (a_likely, .inl (cI, 8, .inl c_likely)), (a_refusals, .inl (cI, 7, .inl c_refusals))]
abbrev rm_R_feetOf : Room := { frames := 2, cells := 0, slots := 0, locals := 43 }
set_option maxRecDepth 100000 in
set_option maxHeartbeats 4000000 in
theorem s_R_feetOf_j17 (C : kC p l e rm_R_feetOf s m args below meth c D (tyG cI cL cZ) A 3 cX5_feetOf yX5_feetOf.cls (Cond.code yX5_feetOf cX5_feetOf 3 (some .int) :: WS) (some .int)) {a_this : Nat} {a_gravel : Nat} {a_kind : Nat} {a_own : Nat} {a_likely : Nat} {a_tape : Nat} {a_holding : Nat} {a_rowLength : Nat} {a_rowOf : Nat} {a_refusals : Nat} {a_old : Nat} {a_ahead : Nat} {a_cost : Nat} {a_may : Nat} {a_rest : Nat} {a_way : Nat} {c_n : Int32} {c_rain : Int32} {c_ear : Int32} {c_many : Int32} {c_seed : Int32} {c_taped : Int32} {c_from : Int32} {c_to : Int32} {c_token : Int32} {c_value : Int32} {c_imaged : Int32} {c_kind : (Nat → Int32)} {c_own : (Nat → Int32)} {c_likely : (Nat → Int32)} {c_refusals : (Nat → Int32)} {x : (Int32 × (Nat → Int32))} (h : f_R_feetOf_j17 c_refusals = some x) :
    kW p l e rm_R_feetOf s m args below meth c D A 3 (cells_R_feetOf cI cL cZ a_this a_gravel a_kind a_own a_likely a_tape a_holding a_rowLength a_rowOf a_refusals a_old a_ahead a_cost a_may a_rest a_way c_n c_rain c_ear c_many c_seed c_taped c_from c_to c_token c_value c_imaged c_kind c_own c_likely c_refusals) [(0, .ref a_this)] (MQ below (kQi D A (cells_R_feetOf cI cL cZ a_this a_gravel a_kind a_own a_likely a_tape a_holding a_rowLength a_rowOf a_refusals a_old a_ahead a_cost a_may a_rest a_way c_n c_rain c_ear c_many c_seed c_taped c_from c_to c_token c_value c_imaged c_kind c_own c_likely x.2) x.1) args s 0 0 A) 17 [] := by
  unfold f_R_feetOf_j17 at h
  refine k_aload_n C dX5_feetOf_17 0 rfl rfl ?_
  refine k_bipush C (v := (-2 : Int32)) dX5_feetOf_18 (by decide) ?_
  obtain ⟨x2, hx2, h⟩ := bindE h
  refine kcallU_i C (wc := (cells_R_no cI cL cZ a_this a_gravel a_kind a_own a_likely a_tape a_holding a_rowLength a_rowOf a_refusals a_old a_ahead a_cost a_may a_rest a_way c_n c_rain c_ear c_many c_seed c_taped c_from c_to c_token c_value c_imaged c_refusals)) (w1 := (cells_R_no cI cL cZ a_this a_gravel a_kind a_own a_likely a_tape a_holding a_rowLength a_rowOf a_refusals a_old a_ahead a_cost a_may a_rest a_way c_n c_rain c_ear c_many c_seed c_taped c_from c_to c_token c_value c_imaged x2.2)) (ws' := (cells_R_feetOf cI cL cZ a_this a_gravel a_kind a_own a_likely a_tape a_holding a_rowLength a_rowOf a_refusals a_old a_ahead a_cost a_may a_rest a_way c_n c_rain c_ear c_many c_seed c_taped c_from c_to c_token c_value c_imaged c_kind c_own c_likely x2.2)) (r := x2.1) [0, 4] (fun H locs ls hP hD hS hF hz => krunV C (q0 := 0) (ci := 5) (c_R_no l D cI cL cZ H.size a_this a_gravel a_kind a_own a_likely a_tape a_holding a_rowLength a_rowOf a_refusals a_old a_ahead a_cost a_may a_rest a_way (-2 : Int32) c_n c_rain c_ear c_many c_seed c_taped c_from c_to c_token c_value c_imaged c_refusals x2 hx2) (cwV 1 C.2.2.2.2.1 (gV wq_558 wq_559 wq_560 wq_551 wq_557) rfl rfl rfl (by decide +kernel) ⟨(Nat.le_of_ble_eq_true rfl), (Nat.le_of_ble_eq_true rfl)⟩) rfl rfl kEnv_T rfl rfl (Nat.le_of_ble_eq_true rfl) dX5_feetOf_20 hP hD hz) rfl (by decide) rfl rfl ?_
  obtain rfl := Option.some.inj h
  exact kret_i C rfl dX5_feetOf_23
set_option maxRecDepth 100000 in
set_option maxHeartbeats 4000000 in
theorem s_R_feetOf (C : kC p l e rm_R_feetOf s m args below meth c D (tyG cI cL cZ) A 3 cX5_feetOf yX5_feetOf.cls (Cond.code yX5_feetOf cX5_feetOf 3 (some .int) :: WS) (some .int)) {a_this : Nat} {a_gravel : Nat} {a_kind : Nat} {a_own : Nat} {a_likely : Nat} {a_tape : Nat} {a_holding : Nat} {a_rowLength : Nat} {a_rowOf : Nat} {a_refusals : Nat} {a_old : Nat} {a_ahead : Nat} {a_cost : Nat} {a_may : Nat} {a_rest : Nat} {a_way : Nat} {v1 : Int32} {v2 : Int32} {c_n : Int32} {c_rain : Int32} {c_ear : Int32} {c_many : Int32} {c_seed : Int32} {c_taped : Int32} {c_from : Int32} {c_to : Int32} {c_token : Int32} {c_value : Int32} {c_imaged : Int32} {c_kind : (Nat → Int32)} {c_own : (Nat → Int32)} {c_likely : (Nat → Int32)} {c_refusals : (Nat → Int32)} {x : (Int32 × (Nat → Int32))} (h : f_R_feetOf v1 v2 c_many c_kind c_own c_likely c_refusals = some x) :
    kW p l e rm_R_feetOf s m args below meth c D A 3 (cells_R_feetOf cI cL cZ a_this a_gravel a_kind a_own a_likely a_tape a_holding a_rowLength a_rowOf a_refusals a_old a_ahead a_cost a_may a_rest a_way c_n c_rain c_ear c_many c_seed c_taped c_from c_to c_token c_value c_imaged c_kind c_own c_likely c_refusals) [(0, .ref a_this), (1, .int v1), (2, .int v2)] (MQ below (kQi D A (cells_R_feetOf cI cL cZ a_this a_gravel a_kind a_own a_likely a_tape a_holding a_rowLength a_rowOf a_refusals a_old a_ahead a_cost a_may a_rest a_way c_n c_rain c_ear c_many c_seed c_taped c_from c_to c_token c_value c_imaged c_kind c_own c_likely x.2) x.1) args s 0 0 A) 0 [] := by
  unfold f_R_feetOf at h
  refine k_aload_n C dX5_feetOf_0 0 rfl rfl ?_
  refine k_iload_n C dX5_feetOf_1 1 rfl rfl ?_
  obtain ⟨x1, hx1, h⟩ := bindE h
  refine kcallR_i C (wc := (cells_R_isFeet cI cL cZ a_this a_gravel a_kind a_own a_likely a_tape a_holding a_rowLength a_rowOf a_refusals a_old a_ahead a_cost a_may a_rest a_way c_n c_rain c_ear c_many c_seed c_taped c_from c_to c_token c_value c_imaged)) (r := x1) [0] (fun H locs ls hP hD hS hF hz => krunV C (q0 := 0) (ci := 5) (c_R_isFeet l D cI cL cZ H.size a_this a_gravel a_kind a_own a_likely a_tape a_holding a_rowLength a_rowOf a_refusals a_old a_ahead a_cost a_may a_rest a_way v1 c_n c_rain c_ear c_many c_seed c_taped c_from c_to c_token c_value c_imaged x1 hx1) (cwV 1 C.2.2.2.2.1 (gV wq_575 wq_576 wq_577 wq_551 wq_574) rfl rfl rfl (by decide +kernel) ⟨(Nat.le_of_ble_eq_true rfl), (Nat.le_of_ble_eq_true rfl)⟩) rfl rfl kEnv_T rfl rfl (Nat.le_of_ble_eq_true rfl) dX5_feetOf_2 hP hD hz) rfl (by decide) ?_
  refine k_if_eq C (tgt := 17) dX5_feetOf_5 (by decide) (fun c_5 => ?_) (fun c_5 => ?_)
  · have h := ifT c_5 h
    refine k_lv (lv' := [(0, .ref a_this)]) [0] rfl ?_
    exact s_R_feetOf_j17 C h
  · have h := ifF c_5 h
    refine k_iload_n C dX5_feetOf_8 2 rfl rfl ?_
    refine k_iconst C (v := (0 : Int32)) dX5_feetOf_9 (by decide) ?_
    refine k_iconst C (v := (2 : Int32)) dX5_feetOf_10 (by decide) ?_
    obtain ⟨x3, hx3, h⟩ := bindE h
    refine kcallE_i C (r := x3) (fun H locs ls hP hD hS hF hz => krunS C (c_R_within l D cI cL cZ H.size v2 (0 : Int32) (2 : Int32) x3 hx3) (va_cwS 3 C.2.2.2.2.1 (gS wq_549 wq_550 wq_551 wq_548) rfl rfl rfl (by decide +kernel) ⟨(Nat.le_of_ble_eq_true rfl), (Nat.le_of_ble_eq_true rfl)⟩) kEnv_T rfl rfl (Nat.le_of_ble_eq_true rfl) dX5_feetOf_11 hP hD hz) ?_
    refine k_if_ne C (tgt := 24) dX5_feetOf_14 (by decide) (fun c_14 => ?_) (fun c_14 => ?_)
    · have h := ifF c_14 h
      refine k_iload_n C dX5_feetOf_24 2 rfl rfl ?_
      refine k_if_ne C (tgt := 37) dX5_feetOf_25 (by decide) (fun c_25 => ?_) (fun c_25 => ?_)
      · have h := ifF c_25 h
        refine k_iload_n C dX5_feetOf_37 2 rfl rfl ?_
        refine k_iconst C (v := (1 : Int32)) dX5_feetOf_38 (by decide) ?_
        refine k_icmp_ne C (tgt := 51) dX5_feetOf_39 (by decide) (fun c_39 => ?_) (fun c_39 => ?_)
        · have h := ifF c_39 h
          refine k_aload_n C dX5_feetOf_51 0 rfl rfl ?_
          refine k_get C (C0 := RX5) (T := TX5) (N := 26) (fun w h => List.mem_cons_of_mem _ (us_R w h)) 0 rfl rfl 7 (by decide) (List.mem_cons_of_mem _ wq_594) rfl rfl dX5_feetOf_52 ?_
          refine k_iload_n C dX5_feetOf_55 1 rfl rfl ?_
          obtain ⟨x4, hx4, h⟩ := bindE h
          refine k_iald C 3 0 rfl rfl hx4 dX5_feetOf_56 ?_
          obtain rfl := Option.some.inj h
          exact kret_i C rfl dX5_feetOf_57
        · have h := ifT c_39 h
          refine k_aload_n C dX5_feetOf_42 0 rfl rfl ?_
          refine k_get C (C0 := RX5) (T := TX5) (N := 26) (fun w h => List.mem_cons_of_mem _ (us_R w h)) 0 rfl rfl 6 (by decide) (List.mem_cons_of_mem _ wq_585) rfl rfl dX5_feetOf_43 ?_
          refine k_iload_n C dX5_feetOf_46 1 rfl rfl ?_
          obtain ⟨x5, hx5, h⟩ := bindE h
          refine k_iald C 2 0 rfl rfl hx5 dX5_feetOf_47 ?_
          refine k_goto C (tgt := 57) dX5_feetOf_48 (by decide) ?_
          obtain rfl := Option.some.inj h
          exact kret_i C rfl dX5_feetOf_57
      · have h := ifT c_25 h
        refine k_aload_n C dX5_feetOf_28 0 rfl rfl ?_
        refine k_get C (C0 := RX5) (T := TX5) (N := 26) (fun w h => List.mem_cons_of_mem _ (us_R w h)) 0 rfl rfl 5 (by decide) (List.mem_cons_of_mem _ wq_586) rfl rfl dX5_feetOf_29 ?_
        refine k_iload_n C dX5_feetOf_32 1 rfl rfl ?_
        obtain ⟨x6, hx6, h⟩ := bindE h
        refine k_iald C 1 0 rfl rfl hx6 dX5_feetOf_33 ?_
        refine k_goto C (tgt := 57) dX5_feetOf_34 (by decide) ?_
        obtain rfl := Option.some.inj h
        exact kret_i C rfl dX5_feetOf_57
    · have h := ifT c_14 h
      refine k_lv (lv' := [(0, .ref a_this)]) [0] rfl ?_
      exact s_R_feetOf_j17 C h
theorem c_R_feetOf (l : Launch) (D : va_G) (cI : ClassId) (cL : ClassId) (cZ : ClassId) (sz : Nat) (a_this : Nat) (a_gravel : Nat) (a_kind : Nat) (a_own : Nat) (a_likely : Nat) (a_tape : Nat) (a_holding : Nat) (a_rowLength : Nat) (a_rowOf : Nat) (a_refusals : Nat) (a_old : Nat) (a_ahead : Nat) (a_cost : Nat) (a_may : Nat) (a_rest : Nat) (a_way : Nat) (v1 : Int32) (v2 : Int32) (c_n : Int32) (c_rain : Int32) (c_ear : Int32) (c_many : Int32) (c_seed : Int32) (c_taped : Int32) (c_from : Int32) (c_to : Int32) (c_token : Int32) (c_value : Int32) (c_imaged : Int32) (c_kind : (Nat → Int32)) (c_own : (Nat → Int32)) (c_likely : (Nat → Int32)) (c_refusals : (Nat → Int32)) (x : (Int32 × (Nat → Int32))) (h : f_R_feetOf v1 v2 c_many c_kind c_own c_likely c_refusals = some x) :
    Met l yX5_feetOf (Cond.code yX5_feetOf cX5_feetOf 3 (some .int) :: WS) rm_R_feetOf (kP D (tyG cI cL cZ) kTrue [.ref a_this, .int v1, .int v2] sz (cells_R_feetOf cI cL cZ a_this a_gravel a_kind a_own a_likely a_tape a_holding a_rowLength a_rowOf a_refusals a_old a_ahead a_cost a_may a_rest a_way c_n c_rain c_ear c_many c_seed c_taped c_from c_to c_token c_value c_imaged c_kind c_own c_likely c_refusals)) (kQi D (va_A (cells_R_feetOf cI cL cZ a_this a_gravel a_kind a_own a_likely a_tape a_holding a_rowLength a_rowOf a_refusals a_old a_ahead a_cost a_may a_rest a_way c_n c_rain c_ear c_many c_seed c_taped c_from c_to c_token c_value c_imaged c_kind c_own c_likely c_refusals) sz) (cells_R_feetOf cI cL cZ a_this a_gravel a_kind a_own a_likely a_tape a_holding a_rowLength a_rowOf a_refusals a_old a_ahead a_cost a_may a_rest a_way c_n c_rain c_ear c_many c_seed c_taped c_from c_to c_token c_value c_imaged c_kind c_own c_likely x.2) x.1) 0 0 (va_A (cells_R_feetOf cI cL cZ a_this a_gravel a_kind a_own a_likely a_tape a_holding a_rowLength a_rowOf a_refusals a_old a_ahead a_cost a_may a_rest a_way c_n c_rain c_ear c_many c_seed c_taped c_from c_to c_token c_value c_imaged c_kind c_own c_likely c_refusals) sz) :=
  kmet (by decide) (Nat.le_of_ble_eq_true rfl) rfl (fun p e s m below meth c C hE => s_R_feetOf C h)
abbrev cells_R_cellOf (cI : ClassId) (cL : ClassId) (cZ : ClassId) (a_this : Nat) (a_gravel : Nat) (a_kind : Nat) (a_own : Nat) (a_likely : Nat) (a_tape : Nat) (a_holding : Nat) (a_rowLength : Nat) (a_rowOf : Nat) (a_refusals : Nat) (a_old : Nat) (a_ahead : Nat) (a_cost : Nat) (a_may : Nat) (a_rest : Nat) (a_way : Nat) (c_n : Int32) (c_rain : Int32) (c_ear : Int32) (c_many : Int32) (c_seed : Int32) (c_taped : Int32) (c_from : Int32) (c_to : Int32) (c_token : Int32) (c_value : Int32) (c_imaged : Int32) (c_gravel : (Nat → Int32)) (c_refusals : (Nat → Int32)) : va_W := [(a_this, .inr (5, [.int c_n, .ref a_gravel, .int c_rain, .int c_ear, .int c_many, .ref a_kind, .ref a_own, .ref a_likely, .int c_seed, .int c_taped, .ref a_tape, .int c_from, .int c_to, .int c_token, .int c_value, .ref a_holding, .ref a_rowLength, .ref a_rowOf, .ref a_refusals, .int c_imaged, .ref a_old, .ref a_ahead, .ref a_cost, .ref a_may, .ref a_rest, .ref a_way])), (a_gravel, .inl (cI, 36, .inl c_gravel)), (a_refusals, .inl (cI, 7, .inl c_refusals))]
abbrev rm_R_cellOf : Room := { frames := 2, cells := 0, slots := 0, locals := 53 }
set_option maxRecDepth 100000 in
set_option maxHeartbeats 4000000 in
theorem s_R_cellOf_j17 (C : kC p l e rm_R_cellOf s m args below meth c D (tyG cI cL cZ) A 3 cX5_cellOf yX5_cellOf.cls (Cond.code yX5_cellOf cX5_cellOf 3 (some .int) :: WS) (some .int)) {a_this : Nat} {a_gravel : Nat} {a_kind : Nat} {a_own : Nat} {a_likely : Nat} {a_tape : Nat} {a_holding : Nat} {a_rowLength : Nat} {a_rowOf : Nat} {a_refusals : Nat} {a_old : Nat} {a_ahead : Nat} {a_cost : Nat} {a_may : Nat} {a_rest : Nat} {a_way : Nat} {c_n : Int32} {c_rain : Int32} {c_ear : Int32} {c_many : Int32} {c_seed : Int32} {c_taped : Int32} {c_from : Int32} {c_to : Int32} {c_token : Int32} {c_value : Int32} {c_imaged : Int32} {c_gravel : (Nat → Int32)} {c_refusals : (Nat → Int32)} {x : (Int32 × (Nat → Int32))} (h : f_R_cellOf_j17 c_refusals = some x) :
    kW p l e rm_R_cellOf s m args below meth c D A 3 (cells_R_cellOf cI cL cZ a_this a_gravel a_kind a_own a_likely a_tape a_holding a_rowLength a_rowOf a_refusals a_old a_ahead a_cost a_may a_rest a_way c_n c_rain c_ear c_many c_seed c_taped c_from c_to c_token c_value c_imaged c_gravel c_refusals) [(0, .ref a_this)] (MQ below (kQi D A (cells_R_cellOf cI cL cZ a_this a_gravel a_kind a_own a_likely a_tape a_holding a_rowLength a_rowOf a_refusals a_old a_ahead a_cost a_may a_rest a_way c_n c_rain c_ear c_many c_seed c_taped c_from c_to c_token c_value c_imaged c_gravel x.2) x.1) args s 0 0 A) 17 [] := by
  unfold f_R_cellOf_j17 at h
  refine k_aload_n C dX5_cellOf_17 0 rfl rfl ?_
  refine k_bipush C (v := (-2 : Int32)) dX5_cellOf_18 (by decide) ?_
  obtain ⟨x2, hx2, h⟩ := bindE h
  refine kcallU_i C (wc := (cells_R_no cI cL cZ a_this a_gravel a_kind a_own a_likely a_tape a_holding a_rowLength a_rowOf a_refusals a_old a_ahead a_cost a_may a_rest a_way c_n c_rain c_ear c_many c_seed c_taped c_from c_to c_token c_value c_imaged c_refusals)) (w1 := (cells_R_no cI cL cZ a_this a_gravel a_kind a_own a_likely a_tape a_holding a_rowLength a_rowOf a_refusals a_old a_ahead a_cost a_may a_rest a_way c_n c_rain c_ear c_many c_seed c_taped c_from c_to c_token c_value c_imaged x2.2)) (ws' := (cells_R_cellOf cI cL cZ a_this a_gravel a_kind a_own a_likely a_tape a_holding a_rowLength a_rowOf a_refusals a_old a_ahead a_cost a_may a_rest a_way c_n c_rain c_ear c_many c_seed c_taped c_from c_to c_token c_value c_imaged c_gravel x2.2)) (r := x2.1) [0, 2] (fun H locs ls hP hD hS hF hz => krunV C (q0 := 0) (ci := 5) (c_R_no l D cI cL cZ H.size a_this a_gravel a_kind a_own a_likely a_tape a_holding a_rowLength a_rowOf a_refusals a_old a_ahead a_cost a_may a_rest a_way (-2 : Int32) c_n c_rain c_ear c_many c_seed c_taped c_from c_to c_token c_value c_imaged c_refusals x2 hx2) (cwV 1 C.2.2.2.2.1 (gV wq_558 wq_559 wq_560 wq_551 wq_557) rfl rfl rfl (by decide +kernel) ⟨(Nat.le_of_ble_eq_true rfl), (Nat.le_of_ble_eq_true rfl)⟩) rfl rfl kEnv_T rfl rfl (Nat.le_of_ble_eq_true rfl) dX5_cellOf_20 hP hD hz) rfl (by decide) rfl rfl ?_
  obtain rfl := Option.some.inj h
  exact kret_i C rfl dX5_cellOf_23
set_option maxRecDepth 100000 in
set_option maxHeartbeats 4000000 in
theorem s_R_cellOf (C : kC p l e rm_R_cellOf s m args below meth c D (tyG cI cL cZ) A 3 cX5_cellOf yX5_cellOf.cls (Cond.code yX5_cellOf cX5_cellOf 3 (some .int) :: WS) (some .int)) {a_this : Nat} {a_gravel : Nat} {a_kind : Nat} {a_own : Nat} {a_likely : Nat} {a_tape : Nat} {a_holding : Nat} {a_rowLength : Nat} {a_rowOf : Nat} {a_refusals : Nat} {a_old : Nat} {a_ahead : Nat} {a_cost : Nat} {a_may : Nat} {a_rest : Nat} {a_way : Nat} {v1 : Int32} {v2 : Int32} {c_n : Int32} {c_rain : Int32} {c_ear : Int32} {c_many : Int32} {c_seed : Int32} {c_taped : Int32} {c_from : Int32} {c_to : Int32} {c_token : Int32} {c_value : Int32} {c_imaged : Int32} {c_gravel : (Nat → Int32)} {c_refusals : (Nat → Int32)} {x : (Int32 × (Nat → Int32))} (h : f_R_cellOf v1 v2 c_n c_rain c_gravel c_refusals = some x) :
    kW p l e rm_R_cellOf s m args below meth c D A 3 (cells_R_cellOf cI cL cZ a_this a_gravel a_kind a_own a_likely a_tape a_holding a_rowLength a_rowOf a_refusals a_old a_ahead a_cost a_may a_rest a_way c_n c_rain c_ear c_many c_seed c_taped c_from c_to c_token c_value c_imaged c_gravel c_refusals) [(0, .ref a_this), (1, .int v1), (2, .int v2)] (MQ below (kQi D A (cells_R_cellOf cI cL cZ a_this a_gravel a_kind a_own a_likely a_tape a_holding a_rowLength a_rowOf a_refusals a_old a_ahead a_cost a_may a_rest a_way c_n c_rain c_ear c_many c_seed c_taped c_from c_to c_token c_value c_imaged c_gravel x.2) x.1) args s 0 0 A) 0 [] := by
  unfold f_R_cellOf at h
  refine k_aload_n C dX5_cellOf_0 0 rfl rfl ?_
  refine k_iload_n C dX5_cellOf_1 1 rfl rfl ?_
  obtain ⟨x1, hx1, h⟩ := bindE h
  refine kcallR_i C (wc := (cells_R_isCell cI cL cZ a_this a_gravel a_kind a_own a_likely a_tape a_holding a_rowLength a_rowOf a_refusals a_old a_ahead a_cost a_may a_rest a_way c_n c_rain c_ear c_many c_seed c_taped c_from c_to c_token c_value c_imaged)) (r := x1) [0] (fun H locs ls hP hD hS hF hz => krunV C (q0 := 0) (ci := 5) (c_R_isCell l D cI cL cZ H.size a_this a_gravel a_kind a_own a_likely a_tape a_holding a_rowLength a_rowOf a_refusals a_old a_ahead a_cost a_may a_rest a_way v1 c_n c_rain c_ear c_many c_seed c_taped c_from c_to c_token c_value c_imaged x1 hx1) (cwV 1 C.2.2.2.2.1 (gV wq_600 wq_601 wq_602 wq_551 wq_599) rfl rfl rfl (by decide +kernel) ⟨(Nat.le_of_ble_eq_true rfl), (Nat.le_of_ble_eq_true rfl)⟩) rfl rfl kEnv_T rfl rfl (Nat.le_of_ble_eq_true rfl) dX5_cellOf_2 hP hD hz) rfl (by decide) ?_
  refine k_if_eq C (tgt := 17) dX5_cellOf_5 (by decide) (fun c_5 => ?_) (fun c_5 => ?_)
  · have h := ifT c_5 h
    refine k_lv (lv' := [(0, .ref a_this)]) [0] rfl ?_
    exact s_R_cellOf_j17 C h
  · have h := ifF c_5 h
    refine k_iload_n C dX5_cellOf_8 2 rfl rfl ?_
    refine k_iconst C (v := (0 : Int32)) dX5_cellOf_9 (by decide) ?_
    refine k_iconst C (v := (1 : Int32)) dX5_cellOf_10 (by decide) ?_
    obtain ⟨x3, hx3, h⟩ := bindE h
    refine kcallE_i C (r := x3) (fun H locs ls hP hD hS hF hz => krunS C (c_R_within l D cI cL cZ H.size v2 (0 : Int32) (1 : Int32) x3 hx3) (va_cwS 3 C.2.2.2.2.1 (gS wq_549 wq_550 wq_551 wq_548) rfl rfl rfl (by decide +kernel) ⟨(Nat.le_of_ble_eq_true rfl), (Nat.le_of_ble_eq_true rfl)⟩) kEnv_T rfl rfl (Nat.le_of_ble_eq_true rfl) dX5_cellOf_11 hP hD hz) ?_
    refine k_if_ne C (tgt := 24) dX5_cellOf_14 (by decide) (fun c_14 => ?_) (fun c_14 => ?_)
    · have h := ifF c_14 h
      refine k_iload_n C dX5_cellOf_24 2 rfl rfl ?_
      refine k_if_ne C (tgt := 37) dX5_cellOf_25 (by decide) (fun c_25 => ?_) (fun c_25 => ?_)
      · have h := ifF c_25 h
        refine k_aload_n C dX5_cellOf_37 0 rfl rfl ?_
        refine k_iload_n C dX5_cellOf_38 1 rfl rfl ?_
        obtain ⟨x4, hx4, h⟩ := bindE h
        refine kcallR_i C (wc := (cells_R_wet cI cL cZ a_this a_gravel a_kind a_own a_likely a_tape a_holding a_rowLength a_rowOf a_refusals a_old a_ahead a_cost a_may a_rest a_way c_n c_rain c_ear c_many c_seed c_taped c_from c_to c_token c_value c_imaged c_gravel)) (r := x4) [0, 1] (fun H locs ls hP hD hS hF hz => krunV C (q0 := 0) (ci := 5) (c_R_wet l D cI cL cZ H.size a_this a_gravel a_kind a_own a_likely a_tape a_holding a_rowLength a_rowOf a_refusals a_old a_ahead a_cost a_may a_rest a_way v1 c_n c_rain c_ear c_many c_seed c_taped c_from c_to c_token c_value c_imaged c_gravel x4 hx4) (cwV 1 C.2.2.2.2.1 (gV wq_582 wq_583 wq_584 wq_551 wq_581) rfl rfl rfl (by decide +kernel) ⟨(Nat.le_of_ble_eq_true rfl), (Nat.le_of_ble_eq_true rfl)⟩) rfl rfl kEnv_T rfl rfl (Nat.le_of_ble_eq_true rfl) dX5_cellOf_39 hP hD hz) rfl (by decide) ?_
        obtain rfl := Option.some.inj h
        exact kret_i C rfl dX5_cellOf_42
      · have h := ifT c_25 h
        refine k_aload_n C dX5_cellOf_28 0 rfl rfl ?_
        refine k_get C (C0 := RX5) (T := TX5) (N := 26) (fun w h => List.mem_cons_of_mem _ (us_R w h)) 0 rfl rfl 1 (by decide) (List.mem_cons_of_mem _ wq_578) rfl rfl dX5_cellOf_29 ?_
        refine k_iload_n C dX5_cellOf_32 1 rfl rfl ?_
        obtain ⟨x5, hx5, h⟩ := bindE h
        refine k_iald C 1 0 rfl rfl hx5 dX5_cellOf_33 ?_
        refine k_goto C (tgt := 42) dX5_cellOf_34 (by decide) ?_
        obtain rfl := Option.some.inj h
        exact kret_i C rfl dX5_cellOf_42
    · have h := ifT c_14 h
      refine k_lv (lv' := [(0, .ref a_this)]) [0] rfl ?_
      exact s_R_cellOf_j17 C h
theorem c_R_cellOf (l : Launch) (D : va_G) (cI : ClassId) (cL : ClassId) (cZ : ClassId) (sz : Nat) (a_this : Nat) (a_gravel : Nat) (a_kind : Nat) (a_own : Nat) (a_likely : Nat) (a_tape : Nat) (a_holding : Nat) (a_rowLength : Nat) (a_rowOf : Nat) (a_refusals : Nat) (a_old : Nat) (a_ahead : Nat) (a_cost : Nat) (a_may : Nat) (a_rest : Nat) (a_way : Nat) (v1 : Int32) (v2 : Int32) (c_n : Int32) (c_rain : Int32) (c_ear : Int32) (c_many : Int32) (c_seed : Int32) (c_taped : Int32) (c_from : Int32) (c_to : Int32) (c_token : Int32) (c_value : Int32) (c_imaged : Int32) (c_gravel : (Nat → Int32)) (c_refusals : (Nat → Int32)) (x : (Int32 × (Nat → Int32))) (h : f_R_cellOf v1 v2 c_n c_rain c_gravel c_refusals = some x) :
    Met l yX5_cellOf (Cond.code yX5_cellOf cX5_cellOf 3 (some .int) :: WS) rm_R_cellOf (kP D (tyG cI cL cZ) kTrue [.ref a_this, .int v1, .int v2] sz (cells_R_cellOf cI cL cZ a_this a_gravel a_kind a_own a_likely a_tape a_holding a_rowLength a_rowOf a_refusals a_old a_ahead a_cost a_may a_rest a_way c_n c_rain c_ear c_many c_seed c_taped c_from c_to c_token c_value c_imaged c_gravel c_refusals)) (kQi D (va_A (cells_R_cellOf cI cL cZ a_this a_gravel a_kind a_own a_likely a_tape a_holding a_rowLength a_rowOf a_refusals a_old a_ahead a_cost a_may a_rest a_way c_n c_rain c_ear c_many c_seed c_taped c_from c_to c_token c_value c_imaged c_gravel c_refusals) sz) (cells_R_cellOf cI cL cZ a_this a_gravel a_kind a_own a_likely a_tape a_holding a_rowLength a_rowOf a_refusals a_old a_ahead a_cost a_may a_rest a_way c_n c_rain c_ear c_many c_seed c_taped c_from c_to c_token c_value c_imaged c_gravel x.2) x.1) 0 0 (va_A (cells_R_cellOf cI cL cZ a_this a_gravel a_kind a_own a_likely a_tape a_holding a_rowLength a_rowOf a_refusals a_old a_ahead a_cost a_may a_rest a_way c_n c_rain c_ear c_many c_seed c_taped c_from c_to c_token c_value c_imaged c_gravel c_refusals) sz) :=
  kmet (by decide) (Nat.le_of_ble_eq_true rfl) rfl (fun p e s m below meth c C hE => s_R_cellOf C h)
abbrev cells_R_crunch (cI : ClassId) (cL : ClassId) (cZ : ClassId) (a_this : Nat) (a_gravel : Nat) (a_kind : Nat) (a_own : Nat) (a_likely : Nat) (a_tape : Nat) (a_holding : Nat) (a_rowLength : Nat) (a_rowOf : Nat) (a_refusals : Nat) (a_old : Nat) (a_ahead : Nat) (a_cost : Nat) (a_may : Nat) (a_rest : Nat) (a_way : Nat) (c_n : Int32) (c_rain : Int32) (c_ear : Int32) (c_many : Int32) (c_seed : Int32) (c_taped : Int32) (c_from : Int32) (c_to : Int32) (c_token : Int32) (c_value : Int32) (c_imaged : Int32) (c_gravel : (Nat → Int32)) (c_kind : (Nat → Int32)) (c_own : (Nat → Int32)) (c_refusals : (Nat → Int32)) : va_W := [(a_this, .inr (5, [.int c_n, .ref a_gravel, .int c_rain, .int c_ear, .int c_many, .ref a_kind, .ref a_own, .ref a_likely, .int c_seed, .int c_taped, .ref a_tape, .int c_from, .int c_to, .int c_token, .int c_value, .ref a_holding, .ref a_rowLength, .ref a_rowOf, .ref a_refusals, .int c_imaged, .ref a_old, .ref a_ahead, .ref a_cost, .ref a_may, .ref a_rest, .ref a_way])), (a_gravel, .inl (cI, 36, .inl c_gravel)), (a_kind, .inl (cI, 8, .inl c_kind)), (a_own, .inl (cI, 8, .inl c_own)), (a_refusals, .inl (cI, 7, .inl c_refusals))]
abbrev rm_R_crunch : Room := { frames := 3, cells := 0, slots := 0, locals := 78 }
set_option maxRecDepth 100000 in
set_option maxHeartbeats 4000000 in
theorem s_R_crunch_j35 (C : kC p l e rm_R_crunch s m args below meth c D (tyG cI cL cZ) A 4 cX5_crunch yX5_crunch.cls (Cond.code yX5_crunch cX5_crunch 4 (some .int) :: WS) (some .int)) {a_this : Nat} {a_gravel : Nat} {a_kind : Nat} {a_own : Nat} {a_likely : Nat} {a_tape : Nat} {a_holding : Nat} {a_rowLength : Nat} {a_rowOf : Nat} {a_refusals : Nat} {a_old : Nat} {a_ahead : Nat} {a_cost : Nat} {a_may : Nat} {a_rest : Nat} {a_way : Nat} {c_n : Int32} {c_rain : Int32} {c_ear : Int32} {c_many : Int32} {c_seed : Int32} {c_taped : Int32} {c_from : Int32} {c_to : Int32} {c_token : Int32} {c_value : Int32} {c_imaged : Int32} {c_gravel : (Nat → Int32)} {c_kind : (Nat → Int32)} {c_own : (Nat → Int32)} {c_refusals : (Nat → Int32)} {x : (Int32 × (Nat → Int32))} (h : f_R_crunch_j35 c_refusals = some x) :
    kW p l e rm_R_crunch s m args below meth c D A 4 (cells_R_crunch cI cL cZ a_this a_gravel a_kind a_own a_likely a_tape a_holding a_rowLength a_rowOf a_refusals a_old a_ahead a_cost a_may a_rest a_way c_n c_rain c_ear c_many c_seed c_taped c_from c_to c_token c_value c_imaged c_gravel c_kind c_own c_refusals) [(0, .ref a_this)] (MQ below (kQi D A (cells_R_crunch cI cL cZ a_this a_gravel a_kind a_own a_likely a_tape a_holding a_rowLength a_rowOf a_refusals a_old a_ahead a_cost a_may a_rest a_way c_n c_rain c_ear c_many c_seed c_taped c_from c_to c_token c_value c_imaged c_gravel c_kind c_own x.2) x.1) args s 0 0 A) 35 [] := by
  unfold f_R_crunch_j35 at h
  refine k_aload_n C dX5_crunch_35 0 rfl rfl ?_
  refine k_bipush C (v := (-2 : Int32)) dX5_crunch_36 (by decide) ?_
  obtain ⟨x2, hx2, h⟩ := bindE h
  refine kcallU_i C (wc := (cells_R_no cI cL cZ a_this a_gravel a_kind a_own a_likely a_tape a_holding a_rowLength a_rowOf a_refusals a_old a_ahead a_cost a_may a_rest a_way c_n c_rain c_ear c_many c_seed c_taped c_from c_to c_token c_value c_imaged c_refusals)) (w1 := (cells_R_no cI cL cZ a_this a_gravel a_kind a_own a_likely a_tape a_holding a_rowLength a_rowOf a_refusals a_old a_ahead a_cost a_may a_rest a_way c_n c_rain c_ear c_many c_seed c_taped c_from c_to c_token c_value c_imaged x2.2)) (ws' := (cells_R_crunch cI cL cZ a_this a_gravel a_kind a_own a_likely a_tape a_holding a_rowLength a_rowOf a_refusals a_old a_ahead a_cost a_may a_rest a_way c_n c_rain c_ear c_many c_seed c_taped c_from c_to c_token c_value c_imaged c_gravel c_kind c_own x2.2)) (r := x2.1) [0, 4] (fun H locs ls hP hD hS hF hz => krunV C (q0 := 0) (ci := 5) (c_R_no l D cI cL cZ H.size a_this a_gravel a_kind a_own a_likely a_tape a_holding a_rowLength a_rowOf a_refusals a_old a_ahead a_cost a_may a_rest a_way (-2 : Int32) c_n c_rain c_ear c_many c_seed c_taped c_from c_to c_token c_value c_imaged c_refusals x2 hx2) (cwV 1 C.2.2.2.2.1 (gV wq_558 wq_559 wq_560 wq_551 wq_557) rfl rfl rfl (by decide +kernel) ⟨(Nat.le_of_ble_eq_true rfl), (Nat.le_of_ble_eq_true rfl)⟩) rfl rfl kEnv_T rfl rfl (Nat.le_of_ble_eq_true rfl) dX5_crunch_38 hP hD hz) rfl (by decide) rfl rfl ?_
  obtain rfl := Option.some.inj h
  exact kret_i C rfl dX5_crunch_41
set_option maxRecDepth 100000 in
set_option maxHeartbeats 4000000 in
theorem s_R_crunch (C : kC p l e rm_R_crunch s m args below meth c D (tyG cI cL cZ) A 4 cX5_crunch yX5_crunch.cls (Cond.code yX5_crunch cX5_crunch 4 (some .int) :: WS) (some .int)) {a_this : Nat} {a_gravel : Nat} {a_kind : Nat} {a_own : Nat} {a_likely : Nat} {a_tape : Nat} {a_holding : Nat} {a_rowLength : Nat} {a_rowOf : Nat} {a_refusals : Nat} {a_old : Nat} {a_ahead : Nat} {a_cost : Nat} {a_may : Nat} {a_rest : Nat} {a_way : Nat} {v1 : Int32} {v2 : Int32} {v3 : Int32} {c_n : Int32} {c_rain : Int32} {c_ear : Int32} {c_many : Int32} {c_seed : Int32} {c_taped : Int32} {c_from : Int32} {c_to : Int32} {c_token : Int32} {c_value : Int32} {c_imaged : Int32} {c_gravel : (Nat → Int32)} {c_kind : (Nat → Int32)} {c_own : (Nat → Int32)} {c_refusals : (Nat → Int32)} {x : (Int32 × (Nat → Int32))} (h : f_R_crunch v1 v2 v3 c_n c_rain c_many c_gravel c_kind c_own c_refusals = some x) :
    kW p l e rm_R_crunch s m args below meth c D A 4 (cells_R_crunch cI cL cZ a_this a_gravel a_kind a_own a_likely a_tape a_holding a_rowLength a_rowOf a_refusals a_old a_ahead a_cost a_may a_rest a_way c_n c_rain c_ear c_many c_seed c_taped c_from c_to c_token c_value c_imaged c_gravel c_kind c_own c_refusals) [(0, .ref a_this), (1, .int v1), (2, .int v2), (3, .int v3)] (MQ below (kQi D A (cells_R_crunch cI cL cZ a_this a_gravel a_kind a_own a_likely a_tape a_holding a_rowLength a_rowOf a_refusals a_old a_ahead a_cost a_may a_rest a_way c_n c_rain c_ear c_many c_seed c_taped c_from c_to c_token c_value c_imaged c_gravel c_kind c_own x.2) x.1) args s 0 0 A) 0 [] := by
  unfold f_R_crunch at h
  refine k_aload_n C dX5_crunch_0 0 rfl rfl ?_
  refine k_iload_n C dX5_crunch_1 1 rfl rfl ?_
  obtain ⟨x1, hx1, h⟩ := bindE h
  refine kcallR_i C (wc := (cells_R_isFeet cI cL cZ a_this a_gravel a_kind a_own a_likely a_tape a_holding a_rowLength a_rowOf a_refusals a_old a_ahead a_cost a_may a_rest a_way c_n c_rain c_ear c_many c_seed c_taped c_from c_to c_token c_value c_imaged)) (r := x1) [0] (fun H locs ls hP hD hS hF hz => krunV C (q0 := 0) (ci := 5) (c_R_isFeet l D cI cL cZ H.size a_this a_gravel a_kind a_own a_likely a_tape a_holding a_rowLength a_rowOf a_refusals a_old a_ahead a_cost a_may a_rest a_way v1 c_n c_rain c_ear c_many c_seed c_taped c_from c_to c_token c_value c_imaged x1 hx1) (cwV 1 C.2.2.2.2.1 (gV wq_575 wq_576 wq_577 wq_551 wq_574) rfl rfl rfl (by decide +kernel) ⟨(Nat.le_of_ble_eq_true rfl), (Nat.le_of_ble_eq_true rfl)⟩) rfl rfl kEnv_T rfl rfl (Nat.le_of_ble_eq_true rfl) dX5_crunch_2 hP hD hz) rfl (by decide) ?_
  refine k_if_eq C (tgt := 35) dX5_crunch_5 (by decide) (fun c_5 => ?_) (fun c_5 => ?_)
  · have h := ifT c_5 h
    refine k_lv (lv' := [(0, .ref a_this)]) [0] rfl ?_
    exact s_R_crunch_j35 C h
  · have h := ifF c_5 h
    refine k_aload_n C dX5_crunch_8 0 rfl rfl ?_
    refine k_iload_n C dX5_crunch_9 2 rfl rfl ?_
    obtain ⟨x3, hx3, h⟩ := bindE h
    refine kcallR_i C (wc := (cells_R_isCell cI cL cZ a_this a_gravel a_kind a_own a_likely a_tape a_holding a_rowLength a_rowOf a_refusals a_old a_ahead a_cost a_may a_rest a_way c_n c_rain c_ear c_many c_seed c_taped c_from c_to c_token c_value c_imaged)) (r := x3) [0] (fun H locs ls hP hD hS hF hz => krunV C (q0 := 0) (ci := 5) (c_R_isCell l D cI cL cZ H.size a_this a_gravel a_kind a_own a_likely a_tape a_holding a_rowLength a_rowOf a_refusals a_old a_ahead a_cost a_may a_rest a_way v2 c_n c_rain c_ear c_many c_seed c_taped c_from c_to c_token c_value c_imaged x3 hx3) (cwV 1 C.2.2.2.2.1 (gV wq_600 wq_601 wq_602 wq_551 wq_599) rfl rfl rfl (by decide +kernel) ⟨(Nat.le_of_ble_eq_true rfl), (Nat.le_of_ble_eq_true rfl)⟩) rfl rfl kEnv_T rfl rfl (Nat.le_of_ble_eq_true rfl) dX5_crunch_10 hP hD hz) rfl (by decide) ?_
    refine k_if_eq C (tgt := 35) dX5_crunch_13 (by decide) (fun c_13 => ?_) (fun c_13 => ?_)
    · have h := ifT c_13 h
      refine k_lv (lv' := [(0, .ref a_this)]) [0] rfl ?_
      exact s_R_crunch_j35 C h
    · have h := ifF c_13 h
      refine k_iload_n C dX5_crunch_16 3 rfl rfl ?_
      refine k_iconst C (v := (0 : Int32)) dX5_crunch_17 (by decide) ?_
      refine k_iconst C (v := (5 : Int32)) dX5_crunch_18 (by decide) ?_
      obtain ⟨x4, hx4, h⟩ := bindE h
      refine kcallE_i C (r := x4) (fun H locs ls hP hD hS hF hz => krunS C (c_R_within l D cI cL cZ H.size v3 (0 : Int32) (5 : Int32) x4 hx4) (va_cwS 3 C.2.2.2.2.1 (gS wq_549 wq_550 wq_551 wq_548) rfl rfl rfl (by decide +kernel) ⟨(Nat.le_of_ble_eq_true rfl), (Nat.le_of_ble_eq_true rfl)⟩) kEnv_T rfl rfl (Nat.le_of_ble_eq_true rfl) dX5_crunch_19 hP hD hz) ?_
      refine k_if_eq C (tgt := 35) dX5_crunch_22 (by decide) (fun c_22 => ?_) (fun c_22 => ?_)
      · have h := ifT c_22 h
        refine k_lv (lv' := [(0, .ref a_this)]) [0] rfl ?_
        exact s_R_crunch_j35 C h
      · have h := ifF c_22 h
        refine k_aload_n C dX5_crunch_25 0 rfl rfl ?_
        refine k_iload_n C dX5_crunch_26 1 rfl rfl ?_
        refine k_iload_n C dX5_crunch_27 2 rfl rfl ?_
        refine k_iload_n C dX5_crunch_28 3 rfl rfl ?_
        obtain ⟨x5, hx5, h⟩ := bindE h
        refine kcallR_i C (wc := (cells_R_crunches cI cL cZ a_this a_gravel a_kind a_own a_likely a_tape a_holding a_rowLength a_rowOf a_refusals a_old a_ahead a_cost a_may a_rest a_way c_n c_rain c_ear c_many c_seed c_taped c_from c_to c_token c_value c_imaged c_gravel c_kind c_own)) (r := x5) [0, 1, 2, 3] (fun H locs ls hP hD hS hF hz => krunV C (q0 := 0) (ci := 5) (c_R_crunches l D cI cL cZ H.size a_this a_gravel a_kind a_own a_likely a_tape a_holding a_rowLength a_rowOf a_refusals a_old a_ahead a_cost a_may a_rest a_way v1 v2 v3 c_n c_rain c_ear c_many c_seed c_taped c_from c_to c_token c_value c_imaged c_gravel c_kind c_own x5 hx5) (cwV 3 C.2.2.2.2.1 (gV wq_591 wq_592 wq_593 wq_551 wq_590) rfl rfl rfl (by decide +kernel) ⟨(Nat.le_of_ble_eq_true rfl), (Nat.le_of_ble_eq_true rfl)⟩) rfl rfl kEnv_T rfl rfl (Nat.le_of_ble_eq_true rfl) dX5_crunch_29 hP hD hz) rfl (by decide) ?_
        refine k_goto C (tgt := 41) dX5_crunch_32 (by decide) ?_
        obtain rfl := Option.some.inj h
        exact kret_i C rfl dX5_crunch_41
theorem c_R_crunch (l : Launch) (D : va_G) (cI : ClassId) (cL : ClassId) (cZ : ClassId) (sz : Nat) (a_this : Nat) (a_gravel : Nat) (a_kind : Nat) (a_own : Nat) (a_likely : Nat) (a_tape : Nat) (a_holding : Nat) (a_rowLength : Nat) (a_rowOf : Nat) (a_refusals : Nat) (a_old : Nat) (a_ahead : Nat) (a_cost : Nat) (a_may : Nat) (a_rest : Nat) (a_way : Nat) (v1 : Int32) (v2 : Int32) (v3 : Int32) (c_n : Int32) (c_rain : Int32) (c_ear : Int32) (c_many : Int32) (c_seed : Int32) (c_taped : Int32) (c_from : Int32) (c_to : Int32) (c_token : Int32) (c_value : Int32) (c_imaged : Int32) (c_gravel : (Nat → Int32)) (c_kind : (Nat → Int32)) (c_own : (Nat → Int32)) (c_refusals : (Nat → Int32)) (x : (Int32 × (Nat → Int32))) (h : f_R_crunch v1 v2 v3 c_n c_rain c_many c_gravel c_kind c_own c_refusals = some x) :
    Met l yX5_crunch (Cond.code yX5_crunch cX5_crunch 4 (some .int) :: WS) rm_R_crunch (kP D (tyG cI cL cZ) kTrue [.ref a_this, .int v1, .int v2, .int v3] sz (cells_R_crunch cI cL cZ a_this a_gravel a_kind a_own a_likely a_tape a_holding a_rowLength a_rowOf a_refusals a_old a_ahead a_cost a_may a_rest a_way c_n c_rain c_ear c_many c_seed c_taped c_from c_to c_token c_value c_imaged c_gravel c_kind c_own c_refusals)) (kQi D (va_A (cells_R_crunch cI cL cZ a_this a_gravel a_kind a_own a_likely a_tape a_holding a_rowLength a_rowOf a_refusals a_old a_ahead a_cost a_may a_rest a_way c_n c_rain c_ear c_many c_seed c_taped c_from c_to c_token c_value c_imaged c_gravel c_kind c_own c_refusals) sz) (cells_R_crunch cI cL cZ a_this a_gravel a_kind a_own a_likely a_tape a_holding a_rowLength a_rowOf a_refusals a_old a_ahead a_cost a_may a_rest a_way c_n c_rain c_ear c_many c_seed c_taped c_from c_to c_token c_value c_imaged c_gravel c_kind c_own x.2) x.1) 0 0 (va_A (cells_R_crunch cI cL cZ a_this a_gravel a_kind a_own a_likely a_tape a_holding a_rowLength a_rowOf a_refusals a_old a_ahead a_cost a_may a_rest a_way c_n c_rain c_ear c_many c_seed c_taped c_from c_to c_token c_value c_imaged c_gravel c_kind c_own c_refusals) sz) :=
  kmet (by decide) (Nat.le_of_ble_eq_true rfl) rfl (fun p e s m below meth c C hE => s_R_crunch C h)
abbrev cells_R_costs (cI : ClassId) (cL : ClassId) (cZ : ClassId) (a_this : Nat) (a_gravel : Nat) (a_kind : Nat) (a_own : Nat) (a_likely : Nat) (a_tape : Nat) (a_holding : Nat) (a_rowLength : Nat) (a_rowOf : Nat) (a_refusals : Nat) (a_old : Nat) (a_ahead : Nat) (a_cost : Nat) (a_may : Nat) (a_rest : Nat) (a_way : Nat) (c_n : Int32) (c_rain : Int32) (c_ear : Int32) (c_many : Int32) (c_seed : Int32) (c_taped : Int32) (c_from : Int32) (c_to : Int32) (c_token : Int32) (c_value : Int32) (c_imaged : Int32) (c_gravel : (Nat → Int32)) (c_kind : (Nat → Int32)) (c_own : (Nat → Int32)) (c_cost : (Nat → Int32)) (c_may : (Nat → Int32)) : va_W := [(a_this, .inr (5, [.int c_n, .ref a_gravel, .int c_rain, .int c_ear, .int c_many, .ref a_kind, .ref a_own, .ref a_likely, .int c_seed, .int c_taped, .ref a_tape, .int c_from, .int c_to, .int c_token, .int c_value, .ref a_holding, .ref a_rowLength, .ref a_rowOf, .ref a_refusals, .int c_imaged, .ref a_old, .ref a_ahead, .ref a_cost, .ref a_may, .ref a_rest, .ref a_way])), (a_gravel, .inl (cI, 36, .inl c_gravel)), (a_kind, .inl (cI, 8, .inl c_kind)), (a_own, .inl (cI, 8, .inl c_own)), (a_cost, .inl (cI, 36, .inl c_cost)), (a_may, .inl (cZ, 36, .inl c_may))]
abbrev rm_R_costs : Room := { frames := 4, cells := 0, slots := 0, locals := 100 }
set_option maxRecDepth 100000 in
set_option maxHeartbeats 4000000 in
theorem s_R_costs_b2 (C : kC p l e rm_R_costs s m args below meth c D (tyG cI cL cZ) A 3 cX5_costs yX5_costs.cls (Cond.code yX5_costs cX5_costs 3 none :: WS) none) {a_this : Nat} {a_gravel : Nat} {a_kind : Nat} {a_own : Nat} {a_likely : Nat} {a_tape : Nat} {a_holding : Nat} {a_rowLength : Nat} {a_rowOf : Nat} {a_refusals : Nat} {a_old : Nat} {a_ahead : Nat} {a_cost : Nat} {a_may : Nat} {a_rest : Nat} {a_way : Nat} {v1 : Int32} {v2 : Int32} {c_n : Int32} {c_rain : Int32} {c_ear : Int32} {c_many : Int32} {c_seed : Int32} {c_taped : Int32} {c_from : Int32} {c_to : Int32} {c_token : Int32} {c_value : Int32} {c_imaged : Int32} {c_gravel : (Nat → Int32)} {c_kind : (Nat → Int32)} {c_own : (Nat → Int32)} {c_cost : (Nat → Int32)} {c_may : (Nat → Int32)} {x : ((Int32 × (Nat → Int32) × (Nat → Int32)) ⊕ ((Nat → Int32) × (Nat → Int32)))} (h : f_R_costs_b2 v1 c_n c_rain c_gravel c_kind c_own v2 c_cost c_may = some x)
    (kc : ∀ s', x = .inl s' → kW p l e rm_R_costs s m args below meth c D A 3 (cells_R_costs cI cL cZ a_this a_gravel a_kind a_own a_likely a_tape a_holding a_rowLength a_rowOf a_refusals a_old a_ahead a_cost a_may a_rest a_way c_n c_rain c_ear c_many c_seed c_taped c_from c_to c_token c_value c_imaged c_gravel c_kind c_own s'.2.1 s'.2.2) [(0, .ref a_this), (1, .int v1), (2, .int s'.1)] Q 2 [])
    (k0 : ∀ r, x = .inr r → kW p l e rm_R_costs s m args below meth c D A 3 (cells_R_costs cI cL cZ a_this a_gravel a_kind a_own a_likely a_tape a_holding a_rowLength a_rowOf a_refusals a_old a_ahead a_cost a_may a_rest a_way c_n c_rain c_ear c_many c_seed c_taped c_from c_to c_token c_value c_imaged c_gravel c_kind c_own r.1 r.2) [] Q 40 []) :
    kW p l e rm_R_costs s m args below meth c D A 3 (cells_R_costs cI cL cZ a_this a_gravel a_kind a_own a_likely a_tape a_holding a_rowLength a_rowOf a_refusals a_old a_ahead a_cost a_may a_rest a_way c_n c_rain c_ear c_many c_seed c_taped c_from c_to c_token c_value c_imaged c_gravel c_kind c_own c_cost c_may) [(0, .ref a_this), (1, .int v1), (2, .int v2)] Q 2 [] := by
  unfold f_R_costs_b2 at h
  refine k_iload_n C dX5_costs_2 2 rfl rfl ?_
  refine k_aload_n C dX5_costs_3 0 rfl rfl ?_
  refine k_get C (C0 := RX5) (T := TX5) (N := 26) (fun w h => List.mem_cons_of_mem _ (us_R w h)) 0 rfl rfl 0 (by decide) (List.mem_cons_of_mem _ wq_552) rfl rfl dX5_costs_4 ?_
  refine k_aload_n C dX5_costs_7 0 rfl rfl ?_
  refine k_get C (C0 := RX5) (T := TX5) (N := 26) (fun w h => List.mem_cons_of_mem _ (us_R w h)) 0 rfl rfl 0 (by decide) (List.mem_cons_of_mem _ wq_552) rfl rfl dX5_costs_8 ?_
  refine k_imul C dX5_costs_11 ?_
  refine k_icmp_ge C (tgt := 40) dX5_costs_12 (by decide) (fun c_12 => ?_) (fun c_12 => ?_)
  · have h := ifT c_12 h
    refine k_lv (lv' := []) [] rfl ?_
    exact k0 _ (Option.some.inj h).symm
  · have h := ifF c_12 h
    refine k_aload_n C dX5_costs_15 0 rfl rfl ?_
    refine k_get C (C0 := RX5) (T := TX5) (N := 26) (fun w h => List.mem_cons_of_mem _ (us_R w h)) 0 rfl rfl 22 (by decide) (List.mem_cons_of_mem _ wq_652) rfl rfl dX5_costs_16 ?_
    refine k_iload_n C dX5_costs_19 2 rfl rfl ?_
    refine k_aload_n C dX5_costs_20 0 rfl rfl ?_
    refine k_iload_n C dX5_costs_21 1 rfl rfl ?_
    refine k_iload_n C dX5_costs_22 2 rfl rfl ?_
    obtain ⟨x1, hx1, h⟩ := bindE h
    refine kcallR_i C (wc := (cells_R_stepOn cI cL cZ a_this a_gravel a_kind a_own a_likely a_tape a_holding a_rowLength a_rowOf a_refusals a_old a_ahead a_cost a_may a_rest a_way c_n c_rain c_ear c_many c_seed c_taped c_from c_to c_token c_value c_imaged c_gravel c_kind c_own)) (r := x1) [0, 1, 2, 3] (fun H locs ls hP hD hS hF hz => krunV C (q0 := 0) (ci := 5) (c_R_stepOn l D cI cL cZ H.size a_this a_gravel a_kind a_own a_likely a_tape a_holding a_rowLength a_rowOf a_refusals a_old a_ahead a_cost a_may a_rest a_way v1 v2 c_n c_rain c_ear c_many c_seed c_taped c_from c_to c_token c_value c_imaged c_gravel c_kind c_own x1 hx1) (cwV 2 C.2.2.2.2.1 (gV wq_654 wq_655 wq_656 wq_551 wq_653) rfl rfl rfl (by decide +kernel) ⟨(Nat.le_of_ble_eq_true rfl), (Nat.le_of_ble_eq_true rfl)⟩) rfl rfl kEnv_T rfl rfl (Nat.le_of_ble_eq_true rfl) dX5_costs_23 hP hD hz) rfl (by decide) ?_
    obtain ⟨x2, hx2, h⟩ := bindE h
    refine k_iast C 4 0 (ws' := (cells_R_costs cI cL cZ a_this a_gravel a_kind a_own a_likely a_tape a_holding a_rowLength a_rowOf a_refusals a_old a_ahead a_cost a_may a_rest a_way c_n c_rain c_ear c_many c_seed c_taped c_from c_to c_token c_value c_imaged c_gravel c_kind c_own x2 c_may)) rfl rfl hx2 rfl dX5_costs_26 ?_
    refine k_aload_n C dX5_costs_27 0 rfl rfl ?_
    refine k_get C (C0 := RX5) (T := TX5) (N := 26) (fun w h => List.mem_cons_of_mem _ (us_R w h)) 0 rfl rfl 23 (by decide) (List.mem_cons_of_mem _ wq_657) rfl rfl dX5_costs_28 ?_
    refine k_iload_n C dX5_costs_31 2 rfl rfl ?_
    refine k_iconst C (v := (1 : Int32)) dX5_costs_32 (by decide) ?_
    obtain ⟨x3, hx3, h⟩ := bindE h
    refine k_zast C 5 2 (ws' := (cells_R_costs cI cL cZ a_this a_gravel a_kind a_own a_likely a_tape a_holding a_rowLength a_rowOf a_refusals a_old a_ahead a_cost a_may a_rest a_way c_n c_rain c_ear c_many c_seed c_taped c_from c_to c_token c_value c_imaged c_gravel c_kind c_own x2 x3)) rfl rfl hx3 rfl dX5_costs_33 ?_
    refine k_iinc C (v := (v2 + (1 : Int32))) (lv' := [(2, .int (v2 + (1 : Int32))), (0, .ref a_this), (1, .int v1)]) dX5_costs_34 2 rfl rfl (by decide) rfl ?_
    refine k_goto C (tgt := 2) dX5_costs_37 (by decide) ?_
    refine k_lv (lv' := [(0, .ref a_this), (1, .int v1), (2, .int (v2 + (1 : Int32)))]) [1, 2, 0] rfl ?_
    exact kc _ (Option.some.inj h).symm
set_option maxRecDepth 100000 in
set_option maxHeartbeats 4000000 in
theorem s_R_costs_l2 (C : kC p l e rm_R_costs s m args below meth c D (tyG cI cL cZ) A 3 cX5_costs yX5_costs.cls (Cond.code yX5_costs cX5_costs 3 none :: WS) none) {a_this : Nat} {a_gravel : Nat} {a_kind : Nat} {a_own : Nat} {a_likely : Nat} {a_tape : Nat} {a_holding : Nat} {a_rowLength : Nat} {a_rowOf : Nat} {a_refusals : Nat} {a_old : Nat} {a_ahead : Nat} {a_cost : Nat} {a_may : Nat} {a_rest : Nat} {a_way : Nat} {v1 : Int32} {v2 : Int32} {c_n : Int32} {c_rain : Int32} {c_ear : Int32} {c_many : Int32} {c_seed : Int32} {c_taped : Int32} {c_from : Int32} {c_to : Int32} {c_token : Int32} {c_value : Int32} {c_imaged : Int32} {c_gravel : (Nat → Int32)} {c_kind : (Nat → Int32)} {c_own : (Nat → Int32)} {c_cost : (Nat → Int32)} {c_may : (Nat → Int32)} {x : ((Nat → Int32) × (Nat → Int32))} (h : f_R_costs_l2 v1 c_n c_rain c_gravel c_kind c_own v2 c_cost c_may = some x)
    (k0 : kW p l e rm_R_costs s m args below meth c D A 3 (cells_R_costs cI cL cZ a_this a_gravel a_kind a_own a_likely a_tape a_holding a_rowLength a_rowOf a_refusals a_old a_ahead a_cost a_may a_rest a_way c_n c_rain c_ear c_many c_seed c_taped c_from c_to c_token c_value c_imaged c_gravel c_kind c_own x.1 x.2) [] Q 40 []) :
    kW p l e rm_R_costs s m args below meth c D A 3 (cells_R_costs cI cL cZ a_this a_gravel a_kind a_own a_likely a_tape a_holding a_rowLength a_rowOf a_refusals a_old a_ahead a_cost a_may a_rest a_way c_n c_rain c_ear c_many c_seed c_taped c_from c_to c_token c_value c_imaged c_gravel c_kind c_own c_cost c_may) [(0, .ref a_this), (1, .int v1), (2, .int v2)] Q 2 [] := by
  unfold f_R_costs_l2 at h
  exact iter_W (body := fun s => f_R_costs_b2 v1 c_n c_rain c_gravel c_kind c_own s.1 s.2.1 s.2.2) (r := x) (T := fun sg => kW p l e rm_R_costs s m args below meth c D A 3 (cells_R_costs cI cL cZ a_this a_gravel a_kind a_own a_likely a_tape a_holding a_rowLength a_rowOf a_refusals a_old a_ahead a_cost a_may a_rest a_way c_n c_rain c_ear c_many c_seed c_taped c_from c_to c_token c_value c_imaged c_gravel c_kind c_own sg.2.1 sg.2.2) [(0, .ref a_this), (1, .int v1), (2, .int sg.1)] Q 2 []) (fun sg y hy hc _ hr => s_R_costs_b2 C (v1 := v1) (v2 := sg.1) (c_n := c_n) (c_rain := c_rain) (c_ear := c_ear) (c_many := c_many) (c_seed := c_seed) (c_taped := c_taped) (c_from := c_from) (c_to := c_to) (c_token := c_token) (c_value := c_value) (c_imaged := c_imaged) (c_gravel := c_gravel) (c_kind := c_kind) (c_own := c_own) (c_cost := sg.2.1) (c_may := sg.2.2) (x := y) hy hc (fun r e => by rw [hr r e]; exact k0)) FUEL (v2, c_cost, c_may) h
set_option maxRecDepth 100000 in
set_option maxHeartbeats 4000000 in
theorem s_R_costs (C : kC p l e rm_R_costs s m args below meth c D (tyG cI cL cZ) A 3 cX5_costs yX5_costs.cls (Cond.code yX5_costs cX5_costs 3 none :: WS) none) {a_this : Nat} {a_gravel : Nat} {a_kind : Nat} {a_own : Nat} {a_likely : Nat} {a_tape : Nat} {a_holding : Nat} {a_rowLength : Nat} {a_rowOf : Nat} {a_refusals : Nat} {a_old : Nat} {a_ahead : Nat} {a_cost : Nat} {a_may : Nat} {a_rest : Nat} {a_way : Nat} {v1 : Int32} {c_n : Int32} {c_rain : Int32} {c_ear : Int32} {c_many : Int32} {c_seed : Int32} {c_taped : Int32} {c_from : Int32} {c_to : Int32} {c_token : Int32} {c_value : Int32} {c_imaged : Int32} {c_gravel : (Nat → Int32)} {c_kind : (Nat → Int32)} {c_own : (Nat → Int32)} {c_cost : (Nat → Int32)} {c_may : (Nat → Int32)} {x : ((Nat → Int32) × (Nat → Int32))} (h : f_R_costs v1 c_n c_rain c_gravel c_kind c_own c_cost c_may = some x) :
    kW p l e rm_R_costs s m args below meth c D A 3 (cells_R_costs cI cL cZ a_this a_gravel a_kind a_own a_likely a_tape a_holding a_rowLength a_rowOf a_refusals a_old a_ahead a_cost a_may a_rest a_way c_n c_rain c_ear c_many c_seed c_taped c_from c_to c_token c_value c_imaged c_gravel c_kind c_own c_cost c_may) [(0, .ref a_this), (1, .int v1)] (MQ below (kQv D A (cells_R_costs cI cL cZ a_this a_gravel a_kind a_own a_likely a_tape a_holding a_rowLength a_rowOf a_refusals a_old a_ahead a_cost a_may a_rest a_way c_n c_rain c_ear c_many c_seed c_taped c_from c_to c_token c_value c_imaged c_gravel c_kind c_own x.1 x.2)) args s 0 0 A) 0 [] := by
  unfold f_R_costs at h
  refine k_iconst C (v := (0 : Int32)) dX5_costs_0 (by decide) ?_
  refine k_istore_n C (lv' := [(2, .int (0 : Int32)), (0, .ref a_this), (1, .int v1)]) dX5_costs_1 rfl (by decide) rfl ?_
  obtain ⟨x4, hx4, h⟩ := bindE h
  refine k_lv (lv' := [(0, .ref a_this), (1, .int v1), (2, .int (0 : Int32))]) [1, 2, 0] rfl ?_
  refine s_R_costs_l2 C hx4 ?_
  obtain rfl := Option.some.inj h
  exact kret_v C rfl dX5_costs_40
theorem c_R_costs (l : Launch) (D : va_G) (cI : ClassId) (cL : ClassId) (cZ : ClassId) (sz : Nat) (a_this : Nat) (a_gravel : Nat) (a_kind : Nat) (a_own : Nat) (a_likely : Nat) (a_tape : Nat) (a_holding : Nat) (a_rowLength : Nat) (a_rowOf : Nat) (a_refusals : Nat) (a_old : Nat) (a_ahead : Nat) (a_cost : Nat) (a_may : Nat) (a_rest : Nat) (a_way : Nat) (v1 : Int32) (c_n : Int32) (c_rain : Int32) (c_ear : Int32) (c_many : Int32) (c_seed : Int32) (c_taped : Int32) (c_from : Int32) (c_to : Int32) (c_token : Int32) (c_value : Int32) (c_imaged : Int32) (c_gravel : (Nat → Int32)) (c_kind : (Nat → Int32)) (c_own : (Nat → Int32)) (c_cost : (Nat → Int32)) (c_may : (Nat → Int32)) (x : ((Nat → Int32) × (Nat → Int32))) (h : f_R_costs v1 c_n c_rain c_gravel c_kind c_own c_cost c_may = some x) :
    Met l yX5_costs (Cond.code yX5_costs cX5_costs 3 none :: WS) rm_R_costs (kP D (tyG cI cL cZ) kTrue [.ref a_this, .int v1] sz (cells_R_costs cI cL cZ a_this a_gravel a_kind a_own a_likely a_tape a_holding a_rowLength a_rowOf a_refusals a_old a_ahead a_cost a_may a_rest a_way c_n c_rain c_ear c_many c_seed c_taped c_from c_to c_token c_value c_imaged c_gravel c_kind c_own c_cost c_may)) (kQv D (va_A (cells_R_costs cI cL cZ a_this a_gravel a_kind a_own a_likely a_tape a_holding a_rowLength a_rowOf a_refusals a_old a_ahead a_cost a_may a_rest a_way c_n c_rain c_ear c_many c_seed c_taped c_from c_to c_token c_value c_imaged c_gravel c_kind c_own c_cost c_may) sz) (cells_R_costs cI cL cZ a_this a_gravel a_kind a_own a_likely a_tape a_holding a_rowLength a_rowOf a_refusals a_old a_ahead a_cost a_may a_rest a_way c_n c_rain c_ear c_many c_seed c_taped c_from c_to c_token c_value c_imaged c_gravel c_kind c_own x.1 x.2)) 0 0 (va_A (cells_R_costs cI cL cZ a_this a_gravel a_kind a_own a_likely a_tape a_holding a_rowLength a_rowOf a_refusals a_old a_ahead a_cost a_may a_rest a_way c_n c_rain c_ear c_many c_seed c_taped c_from c_to c_token c_value c_imaged c_gravel c_kind c_own c_cost c_may) sz) :=
  kmet (by decide) (Nat.le_of_ble_eq_true rfl) rfl (fun p e s m below meth c C hE => s_R_costs C h)
abbrev cells_R_isNext (cI : ClassId) (cL : ClassId) (cZ : ClassId) (a_this : Nat) (a_gravel : Nat) (a_kind : Nat) (a_own : Nat) (a_likely : Nat) (a_tape : Nat) (a_holding : Nat) (a_rowLength : Nat) (a_rowOf : Nat) (a_refusals : Nat) (a_old : Nat) (a_ahead : Nat) (a_cost : Nat) (a_may : Nat) (a_rest : Nat) (a_way : Nat) (c_n : Int32) (c_rain : Int32) (c_ear : Int32) (c_many : Int32) (c_seed : Int32) (c_taped : Int32) (c_from : Int32) (c_to : Int32) (c_token : Int32) (c_value : Int32) (c_imaged : Int32) : va_W := [(a_this, .inr (5, [.int c_n, .ref a_gravel, .int c_rain, .int c_ear, .int c_many, .ref a_kind, .ref a_own, .ref a_likely, .int c_seed, .int c_taped, .ref a_tape, .int c_from, .int c_to, .int c_token, .int c_value, .ref a_holding, .ref a_rowLength, .ref a_rowOf, .ref a_refusals, .int c_imaged, .ref a_old, .ref a_ahead, .ref a_cost, .ref a_may, .ref a_rest, .ref a_way]))]
abbrev rm_R_isNext : Room := { frames := 1, cells := 0, slots := 0, locals := 32 }
set_option maxRecDepth 100000 in
set_option maxHeartbeats 4000000 in
theorem s_R_isNext (C : kC p l e rm_R_isNext s m args below meth c D (tyG cI cL cZ) A 3 cX5_isNext yX5_isNext.cls (Cond.code yX5_isNext cX5_isNext 3 (some .boolean) :: WS) (some .boolean)) {a_this : Nat} {a_gravel : Nat} {a_kind : Nat} {a_own : Nat} {a_likely : Nat} {a_tape : Nat} {a_holding : Nat} {a_rowLength : Nat} {a_rowOf : Nat} {a_refusals : Nat} {a_old : Nat} {a_ahead : Nat} {a_cost : Nat} {a_may : Nat} {a_rest : Nat} {a_way : Nat} {v1 : Int32} {v2 : Int32} {c_n : Int32} {c_rain : Int32} {c_ear : Int32} {c_many : Int32} {c_seed : Int32} {c_taped : Int32} {c_from : Int32} {c_to : Int32} {c_token : Int32} {c_value : Int32} {c_imaged : Int32} {x : Int32} (h : f_R_isNext v1 v2 c_n = some x) :
    kW p l e rm_R_isNext s m args below meth c D A 3 (cells_R_isNext cI cL cZ a_this a_gravel a_kind a_own a_likely a_tape a_holding a_rowLength a_rowOf a_refusals a_old a_ahead a_cost a_may a_rest a_way c_n c_rain c_ear c_many c_seed c_taped c_from c_to c_token c_value c_imaged) [(0, .ref a_this), (1, .int v1), (2, .int v2)] (MQ below (kQi D A (cells_R_isNext cI cL cZ a_this a_gravel a_kind a_own a_likely a_tape a_holding a_rowLength a_rowOf a_refusals a_old a_ahead a_cost a_may a_rest a_way c_n c_rain c_ear c_many c_seed c_taped c_from c_to c_token c_value c_imaged) x) args s 0 0 A) 0 [] := by
  unfold f_R_isNext at h
  refine k_iload_n C dX5_isNext_0 2 rfl rfl ?_
  refine k_aload_n C dX5_isNext_1 0 rfl rfl ?_
  refine k_get C (C0 := RX5) (T := TX5) (N := 26) (fun w h => List.mem_cons_of_mem _ (us_R w h)) 0 rfl rfl 0 (by decide) (List.mem_cons_of_mem _ wq_552) rfl rfl dX5_isNext_2 ?_
  obtain ⟨x1, hx1, h⟩ := bindE h
  refine k_idiv C dX5_isNext_5 hx1 ?_
  refine k_iload_n C dX5_isNext_6 1 rfl rfl ?_
  refine k_aload_n C dX5_isNext_7 0 rfl rfl ?_
  refine k_get C (C0 := RX5) (T := TX5) (N := 26) (fun w h => List.mem_cons_of_mem _ (us_R w h)) 0 rfl rfl 0 (by decide) (List.mem_cons_of_mem _ wq_552) rfl rfl dX5_isNext_8 ?_
  obtain ⟨x2, hx2, h⟩ := bindE h
  refine k_idiv C dX5_isNext_11 hx2 ?_
  refine k_iconst C (v := (1 : Int32)) dX5_isNext_12 (by decide) ?_
  refine k_iadd C dX5_isNext_13 ?_
  refine k_icmp_ne C (tgt := 41) dX5_isNext_14 (by decide) (fun c_14 => ?_) (fun c_14 => ?_)
  · have h := ifF c_14 h
    refine k_iconst C (v := (0 : Int32)) dX5_isNext_41 (by decide) ?_
    obtain rfl := Option.some.inj h
    exact kret_z C rfl nz0 dX5_isNext_42
  · have h := ifT c_14 h
    refine k_iload_n C dX5_isNext_17 2 rfl rfl ?_
    refine k_aload_n C dX5_isNext_18 0 rfl rfl ?_
    refine k_get C (C0 := RX5) (T := TX5) (N := 26) (fun w h => List.mem_cons_of_mem _ (us_R w h)) 0 rfl rfl 0 (by decide) (List.mem_cons_of_mem _ wq_552) rfl rfl dX5_isNext_19 ?_
    obtain ⟨x3, hx3, h⟩ := bindE h
    refine k_irem C dX5_isNext_22 hx3 ?_
    refine k_iload_n C dX5_isNext_23 1 rfl rfl ?_
    refine k_aload_n C dX5_isNext_24 0 rfl rfl ?_
    refine k_get C (C0 := RX5) (T := TX5) (N := 26) (fun w h => List.mem_cons_of_mem _ (us_R w h)) 0 rfl rfl 0 (by decide) (List.mem_cons_of_mem _ wq_552) rfl rfl dX5_isNext_25 ?_
    obtain ⟨x4, hx4, h⟩ := bindE h
    refine k_irem C dX5_isNext_28 hx4 ?_
    refine k_isub C dX5_isNext_29 ?_
    obtain ⟨x5, hx5, h⟩ := bindE h
    refine k_mabs C hx5 (List.mem_cons_of_mem _ wq_661) (List.mem_cons_of_mem _ wq_662) (List.mem_cons_of_mem _ wq_65) (List.mem_cons_of_mem _ wq_663) (Nat.le_of_ble_eq_true rfl) (Nat.le_of_ble_eq_true rfl) dX5_isNext_30 ?_
    refine k_iconst C (v := (2 : Int32)) dX5_isNext_33 (by decide) ?_
    refine k_icmp_ge C (tgt := 41) dX5_isNext_34 (by decide) (fun c_34 => ?_) (fun c_34 => ?_)
    · have h := ifT c_34 h
      refine k_iconst C (v := (0 : Int32)) dX5_isNext_41 (by decide) ?_
      obtain rfl := Option.some.inj h
      exact kret_z C rfl nz0 dX5_isNext_42
    · have h := ifF c_34 h
      refine k_iconst C (v := (1 : Int32)) dX5_isNext_37 (by decide) ?_
      refine k_goto C (tgt := 42) dX5_isNext_38 (by decide) ?_
      obtain rfl := Option.some.inj h
      exact kret_z C rfl nz1 dX5_isNext_42
theorem c_R_isNext (l : Launch) (D : va_G) (cI : ClassId) (cL : ClassId) (cZ : ClassId) (sz : Nat) (a_this : Nat) (a_gravel : Nat) (a_kind : Nat) (a_own : Nat) (a_likely : Nat) (a_tape : Nat) (a_holding : Nat) (a_rowLength : Nat) (a_rowOf : Nat) (a_refusals : Nat) (a_old : Nat) (a_ahead : Nat) (a_cost : Nat) (a_may : Nat) (a_rest : Nat) (a_way : Nat) (v1 : Int32) (v2 : Int32) (c_n : Int32) (c_rain : Int32) (c_ear : Int32) (c_many : Int32) (c_seed : Int32) (c_taped : Int32) (c_from : Int32) (c_to : Int32) (c_token : Int32) (c_value : Int32) (c_imaged : Int32) (x : Int32) (h : f_R_isNext v1 v2 c_n = some x) :
    Met l yX5_isNext (Cond.code yX5_isNext cX5_isNext 3 (some .boolean) :: WS) rm_R_isNext (kP D (tyG cI cL cZ) kTrue [.ref a_this, .int v1, .int v2] sz (cells_R_isNext cI cL cZ a_this a_gravel a_kind a_own a_likely a_tape a_holding a_rowLength a_rowOf a_refusals a_old a_ahead a_cost a_may a_rest a_way c_n c_rain c_ear c_many c_seed c_taped c_from c_to c_token c_value c_imaged)) (kQi D (va_A (cells_R_isNext cI cL cZ a_this a_gravel a_kind a_own a_likely a_tape a_holding a_rowLength a_rowOf a_refusals a_old a_ahead a_cost a_may a_rest a_way c_n c_rain c_ear c_many c_seed c_taped c_from c_to c_token c_value c_imaged) sz) (cells_R_isNext cI cL cZ a_this a_gravel a_kind a_own a_likely a_tape a_holding a_rowLength a_rowOf a_refusals a_old a_ahead a_cost a_may a_rest a_way c_n c_rain c_ear c_many c_seed c_taped c_from c_to c_token c_value c_imaged) x) 0 0 (va_A (cells_R_isNext cI cL cZ a_this a_gravel a_kind a_own a_likely a_tape a_holding a_rowLength a_rowOf a_refusals a_old a_ahead a_cost a_may a_rest a_way c_n c_rain c_ear c_many c_seed c_taped c_from c_to c_token c_value c_imaged) sz) :=
  kmet (by decide) (Nat.le_of_ble_eq_true rfl) rfl (fun p e s m below meth c C hE => s_R_isNext C h)
abbrev cells_R_count (cI : ClassId) (cL : ClassId) (cZ : ClassId) (a_this : Nat) (a_gravel : Nat) (a_kind : Nat) (a_own : Nat) (a_likely : Nat) (a_tape : Nat) (a_holding : Nat) (a_rowLength : Nat) (a_rowOf : Nat) (a_refusals : Nat) (a_old : Nat) (a_ahead : Nat) (a_cost : Nat) (a_may : Nat) (a_rest : Nat) (a_way : Nat) (c_n : Int32) (c_rain : Int32) (c_ear : Int32) (c_many : Int32) (c_seed : Int32) (c_taped : Int32) (c_from : Int32) (c_to : Int32) (c_token : Int32) (c_value : Int32) (c_imaged : Int32) (c_may : (Nat → Int32)) (c_rest : (Nat → Int32)) : va_W := [(a_this, .inr (5, [.int c_n, .ref a_gravel, .int c_rain, .int c_ear, .int c_many, .ref a_kind, .ref a_own, .ref a_likely, .int c_seed, .int c_taped, .ref a_tape, .int c_from, .int c_to, .int c_token, .int c_value, .ref a_holding, .ref a_rowLength, .ref a_rowOf, .ref a_refusals, .int c_imaged, .ref a_old, .ref a_ahead, .ref a_cost, .ref a_may, .ref a_rest, .ref a_way])), (a_may, .inl (cZ, 36, .inl c_may)), (a_rest, .inl (cI, 36, .inl c_rest))]
abbrev rm_R_count : Room := { frames := 2, cells := 0, slots := 0, locals := 54 }
set_option maxRecDepth 100000 in
set_option maxHeartbeats 4000000 in
theorem s_R_count_b57 (C : kC p l e rm_R_count s m args below meth c D (tyG cI cL cZ) A 4 cX5_count yX5_count.cls (Cond.code yX5_count cX5_count 4 (some .int) :: WS) (some .int)) {a_this : Nat} {a_gravel : Nat} {a_kind : Nat} {a_own : Nat} {a_likely : Nat} {a_tape : Nat} {a_holding : Nat} {a_rowLength : Nat} {a_rowOf : Nat} {a_refusals : Nat} {a_old : Nat} {a_ahead : Nat} {a_cost : Nat} {a_may : Nat} {a_rest : Nat} {a_way : Nat} {v1 : Int32} {v2 : Int32} {v3 : Int32} {c_n : Int32} {c_rain : Int32} {c_ear : Int32} {c_many : Int32} {c_seed : Int32} {c_taped : Int32} {c_from : Int32} {c_to : Int32} {c_token : Int32} {c_value : Int32} {c_imaged : Int32} {c_may : (Nat → Int32)} {c_rest : (Nat → Int32)} {x : ((Int32 × (Nat → Int32)) ⊕ (Nat → Int32))} (h : f_R_count_b57 v2 c_n c_may v3 c_rest = some x)
    (kc : ∀ s', x = .inl s' → kW p l e rm_R_count s m args below meth c D A 4 (cells_R_count cI cL cZ a_this a_gravel a_kind a_own a_likely a_tape a_holding a_rowLength a_rowOf a_refusals a_old a_ahead a_cost a_may a_rest a_way c_n c_rain c_ear c_many c_seed c_taped c_from c_to c_token c_value c_imaged c_may s'.2) [(0, .ref a_this), (1, .int v1), (2, .int v2), (3, .int s'.1)] Q 57 [])
    (k0 : ∀ r, x = .inr r → kW p l e rm_R_count s m args below meth c D A 4 (cells_R_count cI cL cZ a_this a_gravel a_kind a_own a_likely a_tape a_holding a_rowLength a_rowOf a_refusals a_old a_ahead a_cost a_may a_rest a_way c_n c_rain c_ear c_many c_seed c_taped c_from c_to c_token c_value c_imaged c_may r) [(0, .ref a_this), (1, .int v1), (2, .int v2)] Q 109 []) :
    kW p l e rm_R_count s m args below meth c D A 4 (cells_R_count cI cL cZ a_this a_gravel a_kind a_own a_likely a_tape a_holding a_rowLength a_rowOf a_refusals a_old a_ahead a_cost a_may a_rest a_way c_n c_rain c_ear c_many c_seed c_taped c_from c_to c_token c_value c_imaged c_may c_rest) [(0, .ref a_this), (1, .int v1), (2, .int v2), (3, .int v3)] Q 57 [] := by
  unfold f_R_count_b57 at h
  refine k_iload_n C dX5_count_57 3 rfl rfl ?_
  refine k_aload_n C dX5_count_58 0 rfl rfl ?_
  refine k_get C (C0 := RX5) (T := TX5) (N := 26) (fun w h => List.mem_cons_of_mem _ (us_R w h)) 0 rfl rfl 0 (by decide) (List.mem_cons_of_mem _ wq_552) rfl rfl dX5_count_59 ?_
  refine k_aload_n C dX5_count_62 0 rfl rfl ?_
  refine k_get C (C0 := RX5) (T := TX5) (N := 26) (fun w h => List.mem_cons_of_mem _ (us_R w h)) 0 rfl rfl 0 (by decide) (List.mem_cons_of_mem _ wq_552) rfl rfl dX5_count_63 ?_
  refine k_imul C dX5_count_66 ?_
  refine k_icmp_ge C (tgt := 109) dX5_count_67 (by decide) (fun c_67 => ?_) (fun c_67 => ?_)
  · have h := ifT c_67 h
    refine k_lv (lv' := [(0, .ref a_this), (1, .int v1), (2, .int v2)]) [0, 1, 2] rfl ?_
    exact k0 _ (Option.some.inj h).symm
  · have h := ifF c_67 h
    refine k_aload_n C dX5_count_70 0 rfl rfl ?_
    refine k_get C (C0 := RX5) (T := TX5) (N := 26) (fun w h => List.mem_cons_of_mem _ (us_R w h)) 0 rfl rfl 23 (by decide) (List.mem_cons_of_mem _ wq_657) rfl rfl dX5_count_71 ?_
    refine k_iload_n C dX5_count_74 2 rfl rfl ?_
    obtain ⟨x3, hx3, h⟩ := bindE h
    refine k_zald C 1 2 rfl rfl hx3 dX5_count_75 ?_
    refine k_if_eq C (tgt := 109) dX5_count_76 (by decide) (fun c_76 => ?_) (fun c_76 => ?_)
    · have h := ifT c_76 h
      refine k_lv (lv' := [(0, .ref a_this), (1, .int v1), (2, .int v2)]) [0, 1, 2] rfl ?_
      exact k0 _ (Option.some.inj h).symm
    · have h := ifF c_76 h
      refine k_aload_n C dX5_count_79 0 rfl rfl ?_
      refine k_iload_n C dX5_count_80 2 rfl rfl ?_
      refine k_iload_n C dX5_count_81 3 rfl rfl ?_
      obtain ⟨x4, hx4, h⟩ := bindE h
      refine kcallR_i C (wc := (cells_R_isNext cI cL cZ a_this a_gravel a_kind a_own a_likely a_tape a_holding a_rowLength a_rowOf a_refusals a_old a_ahead a_cost a_may a_rest a_way c_n c_rain c_ear c_many c_seed c_taped c_from c_to c_token c_value c_imaged)) (r := x4) [0] (fun H locs ls hP hD hS hF hz => krunV C (q0 := 0) (ci := 5) (c_R_isNext l D cI cL cZ H.size a_this a_gravel a_kind a_own a_likely a_tape a_holding a_rowLength a_rowOf a_refusals a_old a_ahead a_cost a_may a_rest a_way v2 v3 c_n c_rain c_ear c_many c_seed c_taped c_from c_to c_token c_value c_imaged x4 hx4) (cwV 2 C.2.2.2.2.1 (gV wq_666 wq_667 wq_668 wq_551 wq_665) rfl rfl rfl (by decide +kernel) ⟨(Nat.le_of_ble_eq_true rfl), (Nat.le_of_ble_eq_true rfl)⟩) rfl rfl kEnv_T rfl rfl (Nat.le_of_ble_eq_true rfl) dX5_count_82 hP hD hz) rfl (by decide) ?_
      refine k_if_eq C (tgt := 103) dX5_count_85 (by decide) (fun c_85 => ?_) (fun c_85 => ?_)
      · have h := ifT c_85 h
        refine k_iinc C (v := (v3 + (1 : Int32))) (lv' := [(3, .int (v3 + (1 : Int32))), (0, .ref a_this), (1, .int v1), (2, .int v2)]) dX5_count_103 3 rfl rfl (by decide) rfl ?_
        refine k_goto C (tgt := 57) dX5_count_106 (by decide) ?_
        refine k_lv (lv' := [(0, .ref a_this), (1, .int v1), (2, .int v2), (3, .int (v3 + (1 : Int32)))]) [1, 2, 3, 0] rfl ?_
        exact kc _ (Option.some.inj h).symm
      · have h := ifF c_85 h
        refine k_aload_n C dX5_count_88 0 rfl rfl ?_
        refine k_get C (C0 := RX5) (T := TX5) (N := 26) (fun w h => List.mem_cons_of_mem _ (us_R w h)) 0 rfl rfl 24 (by decide) (List.mem_cons_of_mem _ wq_664) rfl rfl dX5_count_89 ?_
        refine k_iload_n C dX5_count_92 2 rfl rfl ?_
        refine k_dup2_11 C dX5_count_93 rfl rfl ?_
        obtain ⟨x5, hx5, h⟩ := bindE h
        refine k_iald C 2 0 rfl rfl hx5 dX5_count_94 ?_
        refine k_aload_n C dX5_count_95 0 rfl rfl ?_
        refine k_get C (C0 := RX5) (T := TX5) (N := 26) (fun w h => List.mem_cons_of_mem _ (us_R w h)) 0 rfl rfl 24 (by decide) (List.mem_cons_of_mem _ wq_664) rfl rfl dX5_count_96 ?_
        refine k_iload_n C dX5_count_99 3 rfl rfl ?_
        obtain ⟨x6, hx6, h⟩ := bindE h
        refine k_iald C 2 0 rfl rfl hx6 dX5_count_100 ?_
        refine k_iadd C dX5_count_101 ?_
        obtain ⟨x7, hx7, h⟩ := bindE h
        refine k_iast C 2 0 (ws' := (cells_R_count cI cL cZ a_this a_gravel a_kind a_own a_likely a_tape a_holding a_rowLength a_rowOf a_refusals a_old a_ahead a_cost a_may a_rest a_way c_n c_rain c_ear c_many c_seed c_taped c_from c_to c_token c_value c_imaged c_may x7)) rfl rfl hx7 rfl dX5_count_102 ?_
        refine k_iinc C (v := (v3 + (1 : Int32))) (lv' := [(3, .int (v3 + (1 : Int32))), (0, .ref a_this), (1, .int v1), (2, .int v2)]) dX5_count_103 3 rfl rfl (by decide) rfl ?_
        refine k_goto C (tgt := 57) dX5_count_106 (by decide) ?_
        refine k_lv (lv' := [(0, .ref a_this), (1, .int v1), (2, .int v2), (3, .int (v3 + (1 : Int32)))]) [1, 2, 3, 0] rfl ?_
        exact kc _ (Option.some.inj h).symm
set_option maxRecDepth 100000 in
set_option maxHeartbeats 4000000 in
theorem s_R_count_l57 (C : kC p l e rm_R_count s m args below meth c D (tyG cI cL cZ) A 4 cX5_count yX5_count.cls (Cond.code yX5_count cX5_count 4 (some .int) :: WS) (some .int)) {a_this : Nat} {a_gravel : Nat} {a_kind : Nat} {a_own : Nat} {a_likely : Nat} {a_tape : Nat} {a_holding : Nat} {a_rowLength : Nat} {a_rowOf : Nat} {a_refusals : Nat} {a_old : Nat} {a_ahead : Nat} {a_cost : Nat} {a_may : Nat} {a_rest : Nat} {a_way : Nat} {v1 : Int32} {v2 : Int32} {v3 : Int32} {c_n : Int32} {c_rain : Int32} {c_ear : Int32} {c_many : Int32} {c_seed : Int32} {c_taped : Int32} {c_from : Int32} {c_to : Int32} {c_token : Int32} {c_value : Int32} {c_imaged : Int32} {c_may : (Nat → Int32)} {c_rest : (Nat → Int32)} {x : (Nat → Int32)} (h : f_R_count_l57 v2 c_n c_may v3 c_rest = some x)
    (k0 : kW p l e rm_R_count s m args below meth c D A 4 (cells_R_count cI cL cZ a_this a_gravel a_kind a_own a_likely a_tape a_holding a_rowLength a_rowOf a_refusals a_old a_ahead a_cost a_may a_rest a_way c_n c_rain c_ear c_many c_seed c_taped c_from c_to c_token c_value c_imaged c_may x) [(0, .ref a_this), (1, .int v1), (2, .int v2)] Q 109 []) :
    kW p l e rm_R_count s m args below meth c D A 4 (cells_R_count cI cL cZ a_this a_gravel a_kind a_own a_likely a_tape a_holding a_rowLength a_rowOf a_refusals a_old a_ahead a_cost a_may a_rest a_way c_n c_rain c_ear c_many c_seed c_taped c_from c_to c_token c_value c_imaged c_may c_rest) [(0, .ref a_this), (1, .int v1), (2, .int v2), (3, .int v3)] Q 57 [] := by
  unfold f_R_count_l57 at h
  exact iter_W (body := fun s => f_R_count_b57 v2 c_n c_may s.1 s.2) (r := x) (T := fun sg => kW p l e rm_R_count s m args below meth c D A 4 (cells_R_count cI cL cZ a_this a_gravel a_kind a_own a_likely a_tape a_holding a_rowLength a_rowOf a_refusals a_old a_ahead a_cost a_may a_rest a_way c_n c_rain c_ear c_many c_seed c_taped c_from c_to c_token c_value c_imaged c_may sg.2) [(0, .ref a_this), (1, .int v1), (2, .int v2), (3, .int sg.1)] Q 57 []) (fun sg y hy hc _ hr => s_R_count_b57 C (v1 := v1) (v2 := v2) (v3 := sg.1) (c_n := c_n) (c_rain := c_rain) (c_ear := c_ear) (c_many := c_many) (c_seed := c_seed) (c_taped := c_taped) (c_from := c_from) (c_to := c_to) (c_token := c_token) (c_value := c_value) (c_imaged := c_imaged) (c_may := c_may) (c_rest := sg.2) (x := y) hy hc (fun r e => by rw [hr r e]; exact k0)) FUEL (v3, c_rest) h
set_option maxRecDepth 100000 in
set_option maxHeartbeats 4000000 in
theorem s_R_count_j52 (C : kC p l e rm_R_count s m args below meth c D (tyG cI cL cZ) A 4 cX5_count yX5_count.cls (Cond.code yX5_count cX5_count 4 (some .int) :: WS) (some .int)) {a_this : Nat} {a_gravel : Nat} {a_kind : Nat} {a_own : Nat} {a_likely : Nat} {a_tape : Nat} {a_holding : Nat} {a_rowLength : Nat} {a_rowOf : Nat} {a_refusals : Nat} {a_old : Nat} {a_ahead : Nat} {a_cost : Nat} {a_may : Nat} {a_rest : Nat} {a_way : Nat} {v1 : Int32} {v2 : Int32} {t1 : Int32} {t2 : Int32} {c_n : Int32} {c_rain : Int32} {c_ear : Int32} {c_many : Int32} {c_seed : Int32} {c_taped : Int32} {c_from : Int32} {c_to : Int32} {c_token : Int32} {c_value : Int32} {c_imaged : Int32} {c_may : (Nat → Int32)} {c_rest : (Nat → Int32)} {x : ((Int32 × Int32 × (Nat → Int32)) ⊕ (Int32 × (Nat → Int32)))} (h : f_R_count_j52 v1 v2 t1 t2 c_n c_may c_rest = some x)
    (kc : ∀ s', x = .inl s' → kW p l e rm_R_count s m args below meth c D A 4 (cells_R_count cI cL cZ a_this a_gravel a_kind a_own a_likely a_tape a_holding a_rowLength a_rowOf a_refusals a_old a_ahead a_cost a_may a_rest a_way c_n c_rain c_ear c_many c_seed c_taped c_from c_to c_token c_value c_imaged c_may s'.2.2) [(0, .ref a_this), (1, .int s'.1), (2, .int s'.2.1)] Q 14 [])
    (k0 : ∀ r, x = .inr r → kW p l e rm_R_count s m args below meth c D A 4 (cells_R_count cI cL cZ a_this a_gravel a_kind a_own a_likely a_tape a_holding a_rowLength a_rowOf a_refusals a_old a_ahead a_cost a_may a_rest a_way c_n c_rain c_ear c_many c_seed c_taped c_from c_to c_token c_value c_imaged c_may r.2) [(1, .int r.1)] Q 132 []) :
    kW p l e rm_R_count s m args below meth c D A 4 (cells_R_count cI cL cZ a_this a_gravel a_kind a_own a_likely a_tape a_holding a_rowLength a_rowOf a_refusals a_old a_ahead a_cost a_may a_rest a_way c_n c_rain c_ear c_many c_seed c_taped c_from c_to c_token c_value c_imaged c_may c_rest) [(0, .ref a_this), (1, .int v1), (2, .int v2)] Q 52 [.int t2, .int t1, .ref a_rest] := by
  unfold f_R_count_j52 at h
  obtain ⟨x2, hx2, h⟩ := bindE h
  refine k_iast C 2 0 (ws' := (cells_R_count cI cL cZ a_this a_gravel a_kind a_own a_likely a_tape a_holding a_rowLength a_rowOf a_refusals a_old a_ahead a_cost a_may a_rest a_way c_n c_rain c_ear c_many c_seed c_taped c_from c_to c_token c_value c_imaged c_may x2)) rfl rfl hx2 rfl dX5_count_52 ?_
  refine k_iload_n C dX5_count_53 2 rfl rfl ?_
  refine k_iconst C (v := (1 : Int32)) dX5_count_54 (by decide) ?_
  refine k_iadd C dX5_count_55 ?_
  refine k_istore_n C (lv' := [(3, .int (v2 + (1 : Int32))), (0, .ref a_this), (1, .int v1), (2, .int v2)]) dX5_count_56 rfl (by decide) rfl ?_
  obtain ⟨x8, hx8, h⟩ := bindE h
  refine k_lv (lv' := [(0, .ref a_this), (1, .int v1), (2, .int v2), (3, .int (v2 + (1 : Int32)))]) [1, 2, 3, 0] rfl ?_
  refine s_R_count_l57 C hx8 ?_
  refine k_iload_n C dX5_count_109 2 rfl rfl ?_
  refine k_aload_n C dX5_count_110 0 rfl rfl ?_
  refine k_get C (C0 := RX5) (T := TX5) (N := 26) (fun w h => List.mem_cons_of_mem _ (us_R w h)) 0 rfl rfl 0 (by decide) (List.mem_cons_of_mem _ wq_552) rfl rfl dX5_count_111 ?_
  refine k_icmp_ge C (tgt := 126) dX5_count_114 (by decide) (fun c_114 => ?_) (fun c_114 => ?_)
  · have h := ifT c_114 h
    refine k_iinc C (v := (v2 + (-1 : Int32))) (lv' := [(2, .int (v2 + (-1 : Int32))), (0, .ref a_this), (1, .int v1)]) dX5_count_126 2 rfl rfl (by decide) rfl ?_
    refine k_goto C (tgt := 14) dX5_count_129 (by decide) ?_
    refine k_lv (lv' := [(0, .ref a_this), (1, .int v1), (2, .int (v2 + (-1 : Int32)))]) [1, 2, 0] rfl ?_
    exact kc _ (Option.some.inj h).symm
  · have h := ifF c_114 h
    refine k_iload_n C dX5_count_117 1 rfl rfl ?_
    refine k_aload_n C dX5_count_118 0 rfl rfl ?_
    refine k_get C (C0 := RX5) (T := TX5) (N := 26) (fun w h => List.mem_cons_of_mem _ (us_R w h)) 0 rfl rfl 24 (by decide) (List.mem_cons_of_mem _ wq_664) rfl rfl dX5_count_119 ?_
    refine k_iload_n C dX5_count_122 2 rfl rfl ?_
    obtain ⟨x9, hx9, h⟩ := bindE h
    refine k_iald C 2 0 rfl rfl hx9 dX5_count_123 ?_
    refine k_iadd C dX5_count_124 ?_
    refine k_istore_n C (lv' := [(1, .int (v1 + x9)), (0, .ref a_this), (2, .int v2)]) dX5_count_125 rfl (by decide) rfl ?_
    refine k_iinc C (v := (v2 + (-1 : Int32))) (lv' := [(2, .int (v2 + (-1 : Int32))), (1, .int (v1 + x9)), (0, .ref a_this)]) dX5_count_126 2 rfl rfl (by decide) rfl ?_
    refine k_goto C (tgt := 14) dX5_count_129 (by decide) ?_
    refine k_lv (lv' := [(0, .ref a_this), (1, .int (v1 + x9)), (2, .int (v2 + (-1 : Int32)))]) [2, 1, 0] rfl ?_
    exact kc _ (Option.some.inj h).symm
set_option maxRecDepth 100000 in
set_option maxHeartbeats 4000000 in
theorem s_R_count_j51 (C : kC p l e rm_R_count s m args below meth c D (tyG cI cL cZ) A 4 cX5_count yX5_count.cls (Cond.code yX5_count cX5_count 4 (some .int) :: WS) (some .int)) {a_this : Nat} {a_gravel : Nat} {a_kind : Nat} {a_own : Nat} {a_likely : Nat} {a_tape : Nat} {a_holding : Nat} {a_rowLength : Nat} {a_rowOf : Nat} {a_refusals : Nat} {a_old : Nat} {a_ahead : Nat} {a_cost : Nat} {a_may : Nat} {a_rest : Nat} {a_way : Nat} {v1 : Int32} {v2 : Int32} {t1 : Int32} {c_n : Int32} {c_rain : Int32} {c_ear : Int32} {c_many : Int32} {c_seed : Int32} {c_taped : Int32} {c_from : Int32} {c_to : Int32} {c_token : Int32} {c_value : Int32} {c_imaged : Int32} {c_may : (Nat → Int32)} {c_rest : (Nat → Int32)} {x : ((Int32 × Int32 × (Nat → Int32)) ⊕ (Int32 × (Nat → Int32)))} (h : f_R_count_j51 v1 v2 t1 c_n c_may c_rest = some x)
    (kc : ∀ s', x = .inl s' → kW p l e rm_R_count s m args below meth c D A 4 (cells_R_count cI cL cZ a_this a_gravel a_kind a_own a_likely a_tape a_holding a_rowLength a_rowOf a_refusals a_old a_ahead a_cost a_may a_rest a_way c_n c_rain c_ear c_many c_seed c_taped c_from c_to c_token c_value c_imaged c_may s'.2.2) [(0, .ref a_this), (1, .int s'.1), (2, .int s'.2.1)] Q 14 [])
    (k0 : ∀ r, x = .inr r → kW p l e rm_R_count s m args below meth c D A 4 (cells_R_count cI cL cZ a_this a_gravel a_kind a_own a_likely a_tape a_holding a_rowLength a_rowOf a_refusals a_old a_ahead a_cost a_may a_rest a_way c_n c_rain c_ear c_many c_seed c_taped c_from c_to c_token c_value c_imaged c_may r.2) [(1, .int r.1)] Q 132 []) :
    kW p l e rm_R_count s m args below meth c D A 4 (cells_R_count cI cL cZ a_this a_gravel a_kind a_own a_likely a_tape a_holding a_rowLength a_rowOf a_refusals a_old a_ahead a_cost a_may a_rest a_way c_n c_rain c_ear c_many c_seed c_taped c_from c_to c_token c_value c_imaged c_may c_rest) [(0, .ref a_this), (1, .int v1), (2, .int v2)] Q 51 [.int t1, .ref a_rest] := by
  unfold f_R_count_j51 at h
  refine k_iconst C (v := (0 : Int32)) dX5_count_51 (by decide) ?_
  exact s_R_count_j52 C h kc k0
set_option maxRecDepth 100000 in
set_option maxHeartbeats 4000000 in
theorem s_R_count_b14 (C : kC p l e rm_R_count s m args below meth c D (tyG cI cL cZ) A 4 cX5_count yX5_count.cls (Cond.code yX5_count cX5_count 4 (some .int) :: WS) (some .int)) {a_this : Nat} {a_gravel : Nat} {a_kind : Nat} {a_own : Nat} {a_likely : Nat} {a_tape : Nat} {a_holding : Nat} {a_rowLength : Nat} {a_rowOf : Nat} {a_refusals : Nat} {a_old : Nat} {a_ahead : Nat} {a_cost : Nat} {a_may : Nat} {a_rest : Nat} {a_way : Nat} {v1 : Int32} {v2 : Int32} {c_n : Int32} {c_rain : Int32} {c_ear : Int32} {c_many : Int32} {c_seed : Int32} {c_taped : Int32} {c_from : Int32} {c_to : Int32} {c_token : Int32} {c_value : Int32} {c_imaged : Int32} {c_may : (Nat → Int32)} {c_rest : (Nat → Int32)} {x : ((Int32 × Int32 × (Nat → Int32)) ⊕ (Int32 × (Nat → Int32)))} (h : f_R_count_b14 c_n c_may v1 v2 c_rest = some x)
    (kc : ∀ s', x = .inl s' → kW p l e rm_R_count s m args below meth c D A 4 (cells_R_count cI cL cZ a_this a_gravel a_kind a_own a_likely a_tape a_holding a_rowLength a_rowOf a_refusals a_old a_ahead a_cost a_may a_rest a_way c_n c_rain c_ear c_many c_seed c_taped c_from c_to c_token c_value c_imaged c_may s'.2.2) [(0, .ref a_this), (1, .int s'.1), (2, .int s'.2.1)] Q 14 [])
    (k0 : ∀ r, x = .inr r → kW p l e rm_R_count s m args below meth c D A 4 (cells_R_count cI cL cZ a_this a_gravel a_kind a_own a_likely a_tape a_holding a_rowLength a_rowOf a_refusals a_old a_ahead a_cost a_may a_rest a_way c_n c_rain c_ear c_many c_seed c_taped c_from c_to c_token c_value c_imaged c_may r.2) [(1, .int r.1)] Q 132 []) :
    kW p l e rm_R_count s m args below meth c D A 4 (cells_R_count cI cL cZ a_this a_gravel a_kind a_own a_likely a_tape a_holding a_rowLength a_rowOf a_refusals a_old a_ahead a_cost a_may a_rest a_way c_n c_rain c_ear c_many c_seed c_taped c_from c_to c_token c_value c_imaged c_may c_rest) [(0, .ref a_this), (1, .int v1), (2, .int v2)] Q 14 [] := by
  unfold f_R_count_b14 at h
  refine k_iload_n C dX5_count_14 2 rfl rfl ?_
  refine k_if_lt C (tgt := 132) dX5_count_15 (by decide) (fun c_15 => ?_) (fun c_15 => ?_)
  · have h := ifT c_15 h
    refine k_lv (lv' := [(1, .int v1)]) [1] rfl ?_
    exact k0 _ (Option.some.inj h).symm
  · have h := ifF c_15 h
    refine k_aload_n C dX5_count_18 0 rfl rfl ?_
    refine k_get C (C0 := RX5) (T := TX5) (N := 26) (fun w h => List.mem_cons_of_mem _ (us_R w h)) 0 rfl rfl 24 (by decide) (List.mem_cons_of_mem _ wq_664) rfl rfl dX5_count_19 ?_
    refine k_iload_n C dX5_count_22 2 rfl rfl ?_
    refine k_aload_n C dX5_count_23 0 rfl rfl ?_
    refine k_get C (C0 := RX5) (T := TX5) (N := 26) (fun w h => List.mem_cons_of_mem _ (us_R w h)) 0 rfl rfl 23 (by decide) (List.mem_cons_of_mem _ wq_657) rfl rfl dX5_count_24 ?_
    refine k_iload_n C dX5_count_27 2 rfl rfl ?_
    obtain ⟨x1, hx1, h⟩ := bindE h
    refine k_zald C 1 2 rfl rfl hx1 dX5_count_28 ?_
    refine k_if_eq C (tgt := 51) dX5_count_29 (by decide) (fun c_29 => ?_) (fun c_29 => ?_)
    · have h := ifT c_29 h
      exact s_R_count_j51 C h kc k0
    · have h := ifF c_29 h
      refine k_iload_n C dX5_count_32 2 rfl rfl ?_
      refine k_aload_n C dX5_count_33 0 rfl rfl ?_
      refine k_get C (C0 := RX5) (T := TX5) (N := 26) (fun w h => List.mem_cons_of_mem _ (us_R w h)) 0 rfl rfl 0 (by decide) (List.mem_cons_of_mem _ wq_552) rfl rfl dX5_count_34 ?_
      obtain ⟨x10, hx10, h⟩ := bindE h
      refine k_idiv C dX5_count_37 hx10 ?_
      refine k_aload_n C dX5_count_38 0 rfl rfl ?_
      refine k_get C (C0 := RX5) (T := TX5) (N := 26) (fun w h => List.mem_cons_of_mem _ (us_R w h)) 0 rfl rfl 0 (by decide) (List.mem_cons_of_mem _ wq_552) rfl rfl dX5_count_39 ?_
      refine k_iconst C (v := (1 : Int32)) dX5_count_42 (by decide) ?_
      refine k_isub C dX5_count_43 ?_
      refine k_icmp_ne C (tgt := 51) dX5_count_44 (by decide) (fun c_44 => ?_) (fun c_44 => ?_)
      · have h := ifF c_44 h
        exact s_R_count_j51 C h kc k0
      · have h := ifT c_44 h
        refine k_iconst C (v := (1 : Int32)) dX5_count_47 (by decide) ?_
        refine k_goto C (tgt := 52) dX5_count_48 (by decide) ?_
        exact s_R_count_j52 C h kc k0
set_option maxRecDepth 100000 in
set_option maxHeartbeats 4000000 in
theorem s_R_count_l14 (C : kC p l e rm_R_count s m args below meth c D (tyG cI cL cZ) A 4 cX5_count yX5_count.cls (Cond.code yX5_count cX5_count 4 (some .int) :: WS) (some .int)) {a_this : Nat} {a_gravel : Nat} {a_kind : Nat} {a_own : Nat} {a_likely : Nat} {a_tape : Nat} {a_holding : Nat} {a_rowLength : Nat} {a_rowOf : Nat} {a_refusals : Nat} {a_old : Nat} {a_ahead : Nat} {a_cost : Nat} {a_may : Nat} {a_rest : Nat} {a_way : Nat} {v1 : Int32} {v2 : Int32} {c_n : Int32} {c_rain : Int32} {c_ear : Int32} {c_many : Int32} {c_seed : Int32} {c_taped : Int32} {c_from : Int32} {c_to : Int32} {c_token : Int32} {c_value : Int32} {c_imaged : Int32} {c_may : (Nat → Int32)} {c_rest : (Nat → Int32)} {x : (Int32 × (Nat → Int32))} (h : f_R_count_l14 c_n c_may v1 v2 c_rest = some x)
    (k0 : kW p l e rm_R_count s m args below meth c D A 4 (cells_R_count cI cL cZ a_this a_gravel a_kind a_own a_likely a_tape a_holding a_rowLength a_rowOf a_refusals a_old a_ahead a_cost a_may a_rest a_way c_n c_rain c_ear c_many c_seed c_taped c_from c_to c_token c_value c_imaged c_may x.2) [(1, .int x.1)] Q 132 []) :
    kW p l e rm_R_count s m args below meth c D A 4 (cells_R_count cI cL cZ a_this a_gravel a_kind a_own a_likely a_tape a_holding a_rowLength a_rowOf a_refusals a_old a_ahead a_cost a_may a_rest a_way c_n c_rain c_ear c_many c_seed c_taped c_from c_to c_token c_value c_imaged c_may c_rest) [(0, .ref a_this), (1, .int v1), (2, .int v2)] Q 14 [] := by
  unfold f_R_count_l14 at h
  exact iter_W (body := fun s => f_R_count_b14 c_n c_may s.1 s.2.1 s.2.2) (r := x) (T := fun sg => kW p l e rm_R_count s m args below meth c D A 4 (cells_R_count cI cL cZ a_this a_gravel a_kind a_own a_likely a_tape a_holding a_rowLength a_rowOf a_refusals a_old a_ahead a_cost a_may a_rest a_way c_n c_rain c_ear c_many c_seed c_taped c_from c_to c_token c_value c_imaged c_may sg.2.2) [(0, .ref a_this), (1, .int sg.1), (2, .int sg.2.1)] Q 14 []) (fun sg y hy hc _ hr => s_R_count_b14 C (v1 := sg.1) (v2 := sg.2.1) (c_n := c_n) (c_rain := c_rain) (c_ear := c_ear) (c_many := c_many) (c_seed := c_seed) (c_taped := c_taped) (c_from := c_from) (c_to := c_to) (c_token := c_token) (c_value := c_value) (c_imaged := c_imaged) (c_may := c_may) (c_rest := sg.2.2) (x := y) hy hc (fun r e => by rw [hr r e]; exact k0)) FUEL (v1, v2, c_rest) h
set_option maxRecDepth 100000 in
set_option maxHeartbeats 4000000 in
theorem s_R_count (C : kC p l e rm_R_count s m args below meth c D (tyG cI cL cZ) A 4 cX5_count yX5_count.cls (Cond.code yX5_count cX5_count 4 (some .int) :: WS) (some .int)) {a_this : Nat} {a_gravel : Nat} {a_kind : Nat} {a_own : Nat} {a_likely : Nat} {a_tape : Nat} {a_holding : Nat} {a_rowLength : Nat} {a_rowOf : Nat} {a_refusals : Nat} {a_old : Nat} {a_ahead : Nat} {a_cost : Nat} {a_may : Nat} {a_rest : Nat} {a_way : Nat} {c_n : Int32} {c_rain : Int32} {c_ear : Int32} {c_many : Int32} {c_seed : Int32} {c_taped : Int32} {c_from : Int32} {c_to : Int32} {c_token : Int32} {c_value : Int32} {c_imaged : Int32} {c_may : (Nat → Int32)} {c_rest : (Nat → Int32)} {x : (Int32 × (Nat → Int32))} (h : f_R_count c_n c_may c_rest = some x) :
    kW p l e rm_R_count s m args below meth c D A 4 (cells_R_count cI cL cZ a_this a_gravel a_kind a_own a_likely a_tape a_holding a_rowLength a_rowOf a_refusals a_old a_ahead a_cost a_may a_rest a_way c_n c_rain c_ear c_many c_seed c_taped c_from c_to c_token c_value c_imaged c_may c_rest) [(0, .ref a_this)] (MQ below (kQi D A (cells_R_count cI cL cZ a_this a_gravel a_kind a_own a_likely a_tape a_holding a_rowLength a_rowOf a_refusals a_old a_ahead a_cost a_may a_rest a_way c_n c_rain c_ear c_many c_seed c_taped c_from c_to c_token c_value c_imaged c_may x.2) x.1) args s 0 0 A) 0 [] := by
  unfold f_R_count at h
  refine k_iconst C (v := (0 : Int32)) dX5_count_0 (by decide) ?_
  refine k_istore_n C (lv' := [(1, .int (0 : Int32)), (0, .ref a_this)]) dX5_count_1 rfl (by decide) rfl ?_
  refine k_aload_n C dX5_count_2 1 rfl rfl ?_
  refine k_get C (C0 := RX5) (T := TX5) (N := 26) (fun w h => List.mem_cons_of_mem _ (us_R w h)) 0 rfl rfl 0 (by decide) (List.mem_cons_of_mem _ wq_552) rfl rfl dX5_count_3 ?_
  refine k_aload_n C dX5_count_6 1 rfl rfl ?_
  refine k_get C (C0 := RX5) (T := TX5) (N := 26) (fun w h => List.mem_cons_of_mem _ (us_R w h)) 0 rfl rfl 0 (by decide) (List.mem_cons_of_mem _ wq_552) rfl rfl dX5_count_7 ?_
  refine k_imul C dX5_count_10 ?_
  refine k_iconst C (v := (1 : Int32)) dX5_count_11 (by decide) ?_
  refine k_isub C dX5_count_12 ?_
  refine k_istore_n C (lv' := [(2, .int ((c_n * c_n) - (1 : Int32))), (1, .int (0 : Int32)), (0, .ref a_this)]) dX5_count_13 rfl (by decide) rfl ?_
  obtain ⟨x11, hx11, h⟩ := bindE h
  refine k_lv (lv' := [(0, .ref a_this), (1, .int (0 : Int32)), (2, .int ((c_n * c_n) - (1 : Int32)))]) [2, 1, 0] rfl ?_
  refine s_R_count_l14 C hx11 ?_
  refine k_iload_n C dX5_count_132 0 rfl rfl ?_
  obtain rfl := Option.some.inj h
  exact kret_i C rfl dX5_count_133
theorem c_R_count (l : Launch) (D : va_G) (cI : ClassId) (cL : ClassId) (cZ : ClassId) (sz : Nat) (a_this : Nat) (a_gravel : Nat) (a_kind : Nat) (a_own : Nat) (a_likely : Nat) (a_tape : Nat) (a_holding : Nat) (a_rowLength : Nat) (a_rowOf : Nat) (a_refusals : Nat) (a_old : Nat) (a_ahead : Nat) (a_cost : Nat) (a_may : Nat) (a_rest : Nat) (a_way : Nat) (c_n : Int32) (c_rain : Int32) (c_ear : Int32) (c_many : Int32) (c_seed : Int32) (c_taped : Int32) (c_from : Int32) (c_to : Int32) (c_token : Int32) (c_value : Int32) (c_imaged : Int32) (c_may : (Nat → Int32)) (c_rest : (Nat → Int32)) (x : (Int32 × (Nat → Int32))) (h : f_R_count c_n c_may c_rest = some x) :
    Met l yX5_count (Cond.code yX5_count cX5_count 4 (some .int) :: WS) rm_R_count (kP D (tyG cI cL cZ) kTrue [.ref a_this] sz (cells_R_count cI cL cZ a_this a_gravel a_kind a_own a_likely a_tape a_holding a_rowLength a_rowOf a_refusals a_old a_ahead a_cost a_may a_rest a_way c_n c_rain c_ear c_many c_seed c_taped c_from c_to c_token c_value c_imaged c_may c_rest)) (kQi D (va_A (cells_R_count cI cL cZ a_this a_gravel a_kind a_own a_likely a_tape a_holding a_rowLength a_rowOf a_refusals a_old a_ahead a_cost a_may a_rest a_way c_n c_rain c_ear c_many c_seed c_taped c_from c_to c_token c_value c_imaged c_may c_rest) sz) (cells_R_count cI cL cZ a_this a_gravel a_kind a_own a_likely a_tape a_holding a_rowLength a_rowOf a_refusals a_old a_ahead a_cost a_may a_rest a_way c_n c_rain c_ear c_many c_seed c_taped c_from c_to c_token c_value c_imaged c_may x.2) x.1) 0 0 (va_A (cells_R_count cI cL cZ a_this a_gravel a_kind a_own a_likely a_tape a_holding a_rowLength a_rowOf a_refusals a_old a_ahead a_cost a_may a_rest a_way c_n c_rain c_ear c_many c_seed c_taped c_from c_to c_token c_value c_imaged c_may c_rest) sz) :=
  kmet (by decide) (Nat.le_of_ble_eq_true rfl) rfl (fun p e s m below meth c C hE => s_R_count C h)
abbrev cells_R_first (cI : ClassId) (cL : ClassId) (cZ : ClassId) (a_this : Nat) (a_gravel : Nat) (a_kind : Nat) (a_own : Nat) (a_likely : Nat) (a_tape : Nat) (a_holding : Nat) (a_rowLength : Nat) (a_rowOf : Nat) (a_refusals : Nat) (a_old : Nat) (a_ahead : Nat) (a_cost : Nat) (a_may : Nat) (a_rest : Nat) (a_way : Nat) (c_n : Int32) (c_rain : Int32) (c_ear : Int32) (c_many : Int32) (c_seed : Int32) (c_taped : Int32) (c_from : Int32) (c_to : Int32) (c_token : Int32) (c_value : Int32) (c_imaged : Int32) (c_may : (Nat → Int32)) (c_rest : (Nat → Int32)) (c_way : (Nat → Int32)) : va_W := [(a_this, .inr (5, [.int c_n, .ref a_gravel, .int c_rain, .int c_ear, .int c_many, .ref a_kind, .ref a_own, .ref a_likely, .int c_seed, .int c_taped, .ref a_tape, .int c_from, .int c_to, .int c_token, .int c_value, .ref a_holding, .ref a_rowLength, .ref a_rowOf, .ref a_refusals, .int c_imaged, .ref a_old, .ref a_ahead, .ref a_cost, .ref a_may, .ref a_rest, .ref a_way])), (a_may, .inl (cZ, 36, .inl c_may)), (a_rest, .inl (cI, 36, .inl c_rest)), (a_way, .inl (cI, 6, .inl c_way))]
abbrev rm_R_first : Room := { frames := 3, cells := 0, slots := 0, locals := 77 }

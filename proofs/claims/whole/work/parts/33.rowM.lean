variable {p : Program} {l : Launch} {e : Env} {s : State} {m : MethodId} {args : Array Value} {below : List Frame} {meth : Method} {c : Code} {D : va_G} {A : Nat → Prop} {cI cL cZ : ClassId} {Q : State → Prop}
set_option maxRecDepth 100000 in
set_option maxHeartbeats 4000000 in
theorem s_T_next (C : kC p l e rm_T_next s m args below meth c D (tyG cI cL cZ) A 1 cX3_next yX3_next.cls (Cond.code yX3_next cX3_next 1 none :: WS) none) {a_this : Nat} {a_letters : Nat} {c_size : Int32} {c_token : Int32} {c_place : Int32} {c_end : Int32} {c_letters : (Nat → Int32)} {x : (Int32 × Int32 × Int32)} (h : f_T_next c_size c_token c_place c_end c_letters = some x) :
    kW p l e rm_T_next s m args below meth c D A 1 (cells_T_next cI cL cZ a_this a_letters c_size c_token c_place c_end c_letters) [(0, .ref a_this)] (MQ below (kQv D A (cells_T_next cI cL cZ a_this a_letters c_size x.1 x.2.1 x.2.2 c_letters)) args s 0 0 A) 0 [] := by
  unfold f_T_next at h
  refine k_aload_n C dX3_next_0 0 rfl rfl ?_
  refine k_aload_n C dX3_next_1 0 rfl rfl ?_
  refine k_get C (C0 := RX3) (T := TX3) (N := 5) (fun w h => List.mem_cons_of_mem _ (us_T w h)) 0 rfl rfl 4 (by decide) (List.mem_cons_of_mem _ wq_173) rfl rfl dX3_next_2 ?_
  refine k_put C (C0 := RX3) (T := TX3) (N := 5) (ws' := (cells_T_next cI cL cZ a_this a_letters c_size c_token c_end c_end c_letters)) (fun w h => List.mem_cons_of_mem _ (us_T w h)) tyX3 tyX3_ok nmX3 0 rfl rfl 3 (by decide) (List.mem_cons_of_mem _ wq_174) rfl rfl (tyX3_ok 3 (by decide)) rfl rfl (Nat.le_of_ble_eq_true rfl) rfl dX3_next_5 ?_
  obtain ⟨x2, hx2, h⟩ := bindE h
  refine s_T_next_l8 C hx2 ?_
  refine k_aload_n C dX3_next_45 0 rfl rfl ?_
  refine k_aload_n C dX3_next_46 0 rfl rfl ?_
  refine k_aload_n C dX3_next_47 0 rfl rfl ?_
  refine k_get C (C0 := RX3) (T := TX3) (N := 5) (fun w h => List.mem_cons_of_mem _ (us_T w h)) 0 rfl rfl 3 (by decide) (List.mem_cons_of_mem _ wq_174) rfl rfl dX3_next_48 ?_
  obtain ⟨x3, hx3, h⟩ := bindE h
  refine kcallR_i C (wc := (cells_T_letterAt cI cL cZ a_this a_letters c_size c_token x2 c_end c_letters)) (r := x3) [0, 1] (fun H locs ls hP hD hS hF hz => krunV C (q0 := 0) (ci := 3) (c_T_letterAt l D cI cL cZ H.size a_this a_letters x2 c_size c_token x2 c_end c_letters x3 hx3) (cwV 1 C.2.2.2.2.1 (gV wq_176 wq_177 wq_178 wq_161 wq_175) rfl rfl rfl (by decide +kernel) ⟨(Nat.le_of_ble_eq_true rfl), (Nat.le_of_ble_eq_true rfl)⟩) rfl rfl kEnv_T rfl rfl (Nat.le_of_ble_eq_true rfl) dX3_next_51 hP hD hz) rfl (by decide) ?_
  obtain ⟨x4, hx4, h⟩ := bindE h
  refine kcallE_i C (r := x4) (fun H locs ls hP hD hS hF hz => krunS C (c_T_tokenOf l D cI cL cZ H.size x3 x4 hx4) (va_cwS 1 C.2.2.2.2.1 (gS wq_180 wq_181 wq_161 wq_179) rfl rfl rfl (by decide +kernel) ⟨(Nat.le_of_ble_eq_true rfl), (Nat.le_of_ble_eq_true rfl)⟩) kEnv_T rfl rfl (Nat.le_of_ble_eq_true rfl) dX3_next_54 hP hD hz) ?_
  refine k_put C (C0 := RX3) (T := TX3) (N := 5) (ws' := (cells_T_next cI cL cZ a_this a_letters c_size x4 x2 c_end c_letters)) (fun w h => List.mem_cons_of_mem _ (us_T w h)) tyX3 tyX3_ok nmX3 0 rfl rfl 2 (by decide) (List.mem_cons_of_mem _ wq_182) rfl rfl (tyX3_ok 2 (by decide)) rfl rfl (Nat.le_of_ble_eq_true rfl) rfl dX3_next_57 ?_
  refine k_aload_n C dX3_next_60 0 rfl rfl ?_
  refine k_aload_n C dX3_next_61 0 rfl rfl ?_
  refine k_get C (C0 := RX3) (T := TX3) (N := 5) (fun w h => List.mem_cons_of_mem _ (us_T w h)) 0 rfl rfl 3 (by decide) (List.mem_cons_of_mem _ wq_174) rfl rfl dX3_next_62 ?_
  refine k_aload_n C dX3_next_65 0 rfl rfl ?_
  refine k_get C (C0 := RX3) (T := TX3) (N := 5) (fun w h => List.mem_cons_of_mem _ (us_T w h)) 0 rfl rfl 1 (by decide) (List.mem_cons_of_mem _ wq_154) rfl rfl dX3_next_66 ?_
  refine k_icmp_ge C (tgt := 81) dX3_next_69 (by decide) (fun c_69 => ?_) (fun c_69 => ?_)
  · have h := ifT c_69 h
    refine k_aload_n C dX3_next_81 0 rfl rfl ?_
    refine k_get C (C0 := RX3) (T := TX3) (N := 5) (fun w h => List.mem_cons_of_mem _ (us_T w h)) 0 rfl rfl 1 (by decide) (List.mem_cons_of_mem _ wq_154) rfl rfl dX3_next_82 ?_
    exact s_T_next_j85 C h
  · have h := ifF c_69 h
    refine k_aload_n C dX3_next_72 0 rfl rfl ?_
    refine k_get C (C0 := RX3) (T := TX3) (N := 5) (fun w h => List.mem_cons_of_mem _ (us_T w h)) 0 rfl rfl 3 (by decide) (List.mem_cons_of_mem _ wq_174) rfl rfl dX3_next_73 ?_
    refine k_iconst C (v := (1 : Int32)) dX3_next_76 (by decide) ?_
    refine k_iadd C dX3_next_77 ?_
    refine k_goto C (tgt := 85) dX3_next_78 (by decide) ?_
    exact s_T_next_j85 C h
theorem c_T_next (l : Launch) (D : va_G) (cI : ClassId) (cL : ClassId) (cZ : ClassId) (sz : Nat) (a_this : Nat) (a_letters : Nat) (c_size : Int32) (c_token : Int32) (c_place : Int32) (c_end : Int32) (c_letters : (Nat → Int32)) (x : (Int32 × Int32 × Int32)) (h : f_T_next c_size c_token c_place c_end c_letters = some x) :
    Met l yX3_next (Cond.code yX3_next cX3_next 1 none :: WS) rm_T_next (kP D (tyG cI cL cZ) kTrue [.ref a_this] sz (cells_T_next cI cL cZ a_this a_letters c_size c_token c_place c_end c_letters)) (kQv D (va_A (cells_T_next cI cL cZ a_this a_letters c_size c_token c_place c_end c_letters) sz) (cells_T_next cI cL cZ a_this a_letters c_size x.1 x.2.1 x.2.2 c_letters)) 0 0 (va_A (cells_T_next cI cL cZ a_this a_letters c_size c_token c_place c_end c_letters) sz) :=
  kmet (by decide) (Nat.le_of_ble_eq_true rfl) rfl (fun p e s m below meth c C hE => s_T_next C h)
abbrev cells_T_isSpelt (cI : ClassId) (cL : ClassId) (cZ : ClassId) (a_this : Nat) (a_letters : Nat) (c_size : Int32) (c_token : Int32) (c_place : Int32) (c_end : Int32) (c_letters : (Nat → Int32)) : va_W := [(a_this, .inr (3, [.ref a_letters, .int c_size, .int c_token, .int c_place, .int c_end])), (a_letters, .inl (cI, 250, .inl c_letters))]
abbrev rm_T_isSpelt : Room := { frames := 4, cells := 0, slots := 0, locals := 85 }
set_option maxRecDepth 100000 in
set_option maxHeartbeats 4000000 in
theorem s_T_isSpelt_b28 (C : kC p l e rm_T_isSpelt s m args below meth c D (tyG cI cL cZ) A 3 cX3_isSpelt yX3_isSpelt.cls (Cond.code yX3_isSpelt cX3_isSpelt 3 (some .boolean) :: WS) (some .boolean)) {X : kX} (hE : kEs X A s) {a_this : Nat} {a_letters : Nat} {v2 : Int32} {v1 : Nat} {c_size : Int32} {c_token : Int32} {c_place : Int32} {c_end : Int32} {c_letters : (Nat → Int32)} (hv1 : v1 < 7) {x : (Int32 ⊕ (Unit ⊕ Unit))} (h : f_T_isSpelt_b28 v1 c_size c_place c_letters v2 = some x)
    (kc : ∀ s', x = .inl s' → kW p l e rm_T_isSpelt s m args below meth c D A 3 (cells_T_isSpelt cI cL cZ a_this a_letters c_size c_token c_place c_end c_letters) [(0, .ref a_this), (1, .ref (X.1 v1)), (2, .int s')] Q 28 [])
    (k0 : ∀ r, x = .inr (.inl r) → kW p l e rm_T_isSpelt s m args below meth c D A 3 (cells_T_isSpelt cI cL cZ a_this a_letters c_size c_token c_place c_end c_letters) [] Q 54 [])
    (k1 : ∀ r, x = .inr (.inr r) → kW p l e rm_T_isSpelt s m args below meth c D A 3 (cells_T_isSpelt cI cL cZ a_this a_letters c_size c_token c_place c_end c_letters) [] Q 62 []) :
    kW p l e rm_T_isSpelt s m args below meth c D A 3 (cells_T_isSpelt cI cL cZ a_this a_letters c_size c_token c_place c_end c_letters) [(0, .ref a_this), (1, .ref (X.1 v1)), (2, .int v2)] Q 28 [] := by
  unfold f_T_isSpelt_b28 at h
  refine k_iload_n C dX3_isSpelt_28 2 rfl rfl ?_
  refine k_aload_n C dX3_isSpelt_29 1 rfl rfl ?_
  refine k_slen C hE hv1 wq_183 ⟨(Nat.le_of_ble_eq_true rfl), (Nat.le_of_ble_eq_true rfl)⟩ (Nat.le_of_ble_eq_true rfl) dX3_isSpelt_30 ?_
  refine k_icmp_ge C (tgt := 62) dX3_isSpelt_33 (by decide) (fun c_33 => ?_) (fun c_33 => ?_)
  · have h := ifT c_33 h
    refine k_lv (lv' := []) [] rfl ?_
    exact k1 _ (Option.some.inj h).symm
  · have h := ifF c_33 h
    refine k_aload_n C dX3_isSpelt_36 0 rfl rfl ?_
    refine k_aload_n C dX3_isSpelt_37 0 rfl rfl ?_
    refine k_get C (C0 := RX3) (T := TX3) (N := 5) (fun w h => List.mem_cons_of_mem _ (us_T w h)) 0 rfl rfl 3 (by decide) (List.mem_cons_of_mem _ wq_174) rfl rfl dX3_isSpelt_38 ?_
    refine k_iload_n C dX3_isSpelt_41 2 rfl rfl ?_
    refine k_iadd C dX3_isSpelt_42 ?_
    obtain ⟨x1, hx1, h⟩ := bindE h
    refine kcallR_i C (wc := (cells_T_letterAt cI cL cZ a_this a_letters c_size c_token c_place c_end c_letters)) (r := x1) [0, 1] (fun H locs ls hP hD hS hF hz => krunV C (q0 := 0) (ci := 3) (c_T_letterAt l D cI cL cZ H.size a_this a_letters (c_place + v2) c_size c_token c_place c_end c_letters x1 hx1) (cwV 1 C.2.2.2.2.1 (gV wq_176 wq_177 wq_178 wq_161 wq_175) rfl rfl rfl (by decide +kernel) ⟨(Nat.le_of_ble_eq_true rfl), (Nat.le_of_ble_eq_true rfl)⟩) rfl rfl kEnv_T rfl rfl (Nat.le_of_ble_eq_true rfl) dX3_isSpelt_43 hP hD hz) rfl (by decide) ?_
    refine k_aload_n C dX3_isSpelt_46 1 rfl rfl ?_
    refine k_iload_n C dX3_isSpelt_47 2 rfl rfl ?_
    obtain ⟨x2, hx2, h⟩ := bindE h
    refine k_schr C hE hv1 hx2 wq_184 ⟨(Nat.le_of_ble_eq_true rfl), (Nat.le_of_ble_eq_true rfl)⟩ (Nat.le_of_ble_eq_true rfl) dX3_isSpelt_48 ?_
    refine k_icmp_eq C (tgt := 56) dX3_isSpelt_51 (by decide) (fun c_51 => ?_) (fun c_51 => ?_)
    · have h := ifT c_51 h
      refine k_iinc C (v := (v2 + (1 : Int32))) (lv' := [(2, .int (v2 + (1 : Int32))), (0, .ref a_this), (1, .ref (X.1 v1))]) dX3_isSpelt_56 2 rfl rfl (by decide) rfl ?_
      refine k_goto C (tgt := 28) dX3_isSpelt_59 (by decide) ?_
      refine k_lv (lv' := [(0, .ref a_this), (1, .ref (X.1 v1)), (2, .int (v2 + (1 : Int32)))]) [1, 2, 0] rfl ?_
      exact kc _ (Option.some.inj h).symm
    · have h := ifF c_51 h
      refine k_lv (lv' := []) [] rfl ?_
      exact k0 _ (Option.some.inj h).symm
set_option maxRecDepth 100000 in
set_option maxHeartbeats 4000000 in
theorem s_T_isSpelt_l28 (C : kC p l e rm_T_isSpelt s m args below meth c D (tyG cI cL cZ) A 3 cX3_isSpelt yX3_isSpelt.cls (Cond.code yX3_isSpelt cX3_isSpelt 3 (some .boolean) :: WS) (some .boolean)) {X : kX} (hE : kEs X A s) {a_this : Nat} {a_letters : Nat} {v2 : Int32} {v1 : Nat} {c_size : Int32} {c_token : Int32} {c_place : Int32} {c_end : Int32} {c_letters : (Nat → Int32)} (hv1 : v1 < 7) {x : (Unit ⊕ Unit)} (h : f_T_isSpelt_l28 v1 c_size c_place c_letters v2 = some x)
    (k0 : ∀ r, x = (.inl r) → kW p l e rm_T_isSpelt s m args below meth c D A 3 (cells_T_isSpelt cI cL cZ a_this a_letters c_size c_token c_place c_end c_letters) [] Q 54 [])
    (k1 : ∀ r, x = (.inr r) → kW p l e rm_T_isSpelt s m args below meth c D A 3 (cells_T_isSpelt cI cL cZ a_this a_letters c_size c_token c_place c_end c_letters) [] Q 62 []) :
    kW p l e rm_T_isSpelt s m args below meth c D A 3 (cells_T_isSpelt cI cL cZ a_this a_letters c_size c_token c_place c_end c_letters) [(0, .ref a_this), (1, .ref (X.1 v1)), (2, .int v2)] Q 28 [] := by
  unfold f_T_isSpelt_l28 at h
  exact iter_W (body := fun s => f_T_isSpelt_b28 v1 c_size c_place c_letters s) (r := x) (T := fun sg => kW p l e rm_T_isSpelt s m args below meth c D A 3 (cells_T_isSpelt cI cL cZ a_this a_letters c_size c_token c_place c_end c_letters) [(0, .ref a_this), (1, .ref (X.1 v1)), (2, .int sg)] Q 28 []) (fun sg y hy hc _ hr => s_T_isSpelt_b28 C hE hv1 (v2 := sg) (v1 := v1) (c_size := c_size) (c_token := c_token) (c_place := c_place) (c_end := c_end) (c_letters := c_letters) (x := y) hy hc (fun r e => k0 r (hr _ e).symm) (fun r e => k1 r (hr _ e).symm)) FUEL v2 h
set_option maxRecDepth 100000 in
set_option maxHeartbeats 4000000 in
theorem s_T_isSpelt (C : kC p l e rm_T_isSpelt s m args below meth c D (tyG cI cL cZ) A 3 cX3_isSpelt yX3_isSpelt.cls (Cond.code yX3_isSpelt cX3_isSpelt 3 (some .boolean) :: WS) (some .boolean)) {X : kX} (hE : kEs X A s) {a_this : Nat} {a_letters : Nat} {v1 : Nat} {c_size : Int32} {c_token : Int32} {c_place : Int32} {c_end : Int32} {c_letters : (Nat → Int32)} (hv1 : v1 < 7) {x : Int32} (h : f_T_isSpelt v1 c_size c_token c_place c_end c_letters = some x) :
    kW p l e rm_T_isSpelt s m args below meth c D A 3 (cells_T_isSpelt cI cL cZ a_this a_letters c_size c_token c_place c_end c_letters) [(0, .ref a_this), (1, .ref (X.1 v1))] (MQ below (kQi D A (cells_T_isSpelt cI cL cZ a_this a_letters c_size c_token c_place c_end c_letters) x) args s 0 0 A) 0 [] := by
  unfold f_T_isSpelt at h
  refine k_aload_n C dX3_isSpelt_0 0 rfl rfl ?_
  refine k_get C (C0 := RX3) (T := TX3) (N := 5) (fun w h => List.mem_cons_of_mem _ (us_T w h)) 0 rfl rfl 2 (by decide) (List.mem_cons_of_mem _ wq_182) rfl rfl dX3_isSpelt_1 ?_
  refine k_iconst C (v := (1 : Int32)) dX3_isSpelt_4 (by decide) ?_
  refine k_icmp_ne C (tgt := 24) dX3_isSpelt_5 (by decide) (fun c_5 => ?_) (fun c_5 => ?_)
  · have h := ifF c_5 h
    refine k_iconst C (v := (0 : Int32)) dX3_isSpelt_24 (by decide) ?_
    obtain rfl := Option.some.inj h
    exact kret_z C rfl nz0 dX3_isSpelt_25
  · have h := ifT c_5 h
    refine k_aload_n C dX3_isSpelt_8 0 rfl rfl ?_
    refine k_get C (C0 := RX3) (T := TX3) (N := 5) (fun w h => List.mem_cons_of_mem _ (us_T w h)) 0 rfl rfl 4 (by decide) (List.mem_cons_of_mem _ wq_173) rfl rfl dX3_isSpelt_9 ?_
    refine k_aload_n C dX3_isSpelt_12 0 rfl rfl ?_
    refine k_get C (C0 := RX3) (T := TX3) (N := 5) (fun w h => List.mem_cons_of_mem _ (us_T w h)) 0 rfl rfl 3 (by decide) (List.mem_cons_of_mem _ wq_174) rfl rfl dX3_isSpelt_13 ?_
    refine k_isub C dX3_isSpelt_16 ?_
    refine k_aload_n C dX3_isSpelt_17 1 rfl rfl ?_
    refine k_slen C hE hv1 wq_183 ⟨(Nat.le_of_ble_eq_true rfl), (Nat.le_of_ble_eq_true rfl)⟩ (Nat.le_of_ble_eq_true rfl) dX3_isSpelt_18 ?_
    refine k_icmp_eq C (tgt := 26) dX3_isSpelt_21 (by decide) (fun c_21 => ?_) (fun c_21 => ?_)
    · have h := ifT c_21 h
      refine k_iconst C (v := (0 : Int32)) dX3_isSpelt_26 (by decide) ?_
      refine k_istore_n C (lv' := [(2, .int (0 : Int32)), (0, .ref a_this), (1, .ref (X.1 v1))]) dX3_isSpelt_27 rfl (by decide) rfl ?_
      obtain ⟨x3, hx3, h⟩ := bindE h
      refine k_lv (lv' := [(0, .ref a_this), (1, .ref (X.1 v1)), (2, .int (0 : Int32))]) [1, 2, 0] rfl ?_
      refine s_T_isSpelt_l28 C hE hv1 hx3 ?_ ?_
      · intro x4 ex4
        subst ex4
        have h := sumL h
        refine k_iconst C (v := (0 : Int32)) dX3_isSpelt_54 (by decide) ?_
        obtain rfl := Option.some.inj h
        exact kret_z C rfl nz0 dX3_isSpelt_55
      · intro x5 ex5
        subst ex5
        have h := sumR h
        refine k_iconst C (v := (1 : Int32)) dX3_isSpelt_62 (by decide) ?_
        obtain rfl := Option.some.inj h
        exact kret_z C rfl nz1 dX3_isSpelt_63
    · have h := ifF c_21 h
      refine k_iconst C (v := (0 : Int32)) dX3_isSpelt_24 (by decide) ?_
      obtain rfl := Option.some.inj h
      exact kret_z C rfl nz0 dX3_isSpelt_25
theorem c_T_isSpelt (l : Launch) (D : va_G) (cI : ClassId) (cL : ClassId) (cZ : ClassId) (X : kX) (sz : Nat) (a_this : Nat) (a_letters : Nat) (v1 : Nat) (c_size : Int32) (c_token : Int32) (c_place : Int32) (c_end : Int32) (c_letters : (Nat → Int32)) (hv1 : v1 < 7) (x : Int32) (h : f_T_isSpelt v1 c_size c_token c_place c_end c_letters = some x) :
    Met l yX3_isSpelt (Cond.code yX3_isSpelt cX3_isSpelt 3 (some .boolean) :: WS) rm_T_isSpelt (kP D (tyG cI cL cZ) (kEs X (va_A (cells_T_isSpelt cI cL cZ a_this a_letters c_size c_token c_place c_end c_letters) sz)) [.ref a_this, .ref (X.1 v1)] sz (cells_T_isSpelt cI cL cZ a_this a_letters c_size c_token c_place c_end c_letters)) (kQi D (va_A (cells_T_isSpelt cI cL cZ a_this a_letters c_size c_token c_place c_end c_letters) sz) (cells_T_isSpelt cI cL cZ a_this a_letters c_size c_token c_place c_end c_letters) x) 0 0 (va_A (cells_T_isSpelt cI cL cZ a_this a_letters c_size c_token c_place c_end c_letters) sz) :=
  kmet (by decide) (Nat.le_of_ble_eq_true rfl) rfl (fun p e s m below meth c C hE => s_T_isSpelt C hE hv1 h)
abbrev cells_T_number (cI : ClassId) (cL : ClassId) (cZ : ClassId) (a_this : Nat) (a_letters : Nat) (c_size : Int32) (c_token : Int32) (c_place : Int32) (c_end : Int32) (c_letters : (Nat → Int32)) : va_W := [(a_this, .inr (3, [.ref a_letters, .int c_size, .int c_token, .int c_place, .int c_end])), (a_letters, .inl (cI, 250, .inl c_letters))]
abbrev rm_T_number : Room := { frames := 2, cells := 0, slots := 0, locals := 41 }
set_option maxRecDepth 100000 in
set_option maxHeartbeats 4000000 in
theorem s_T_number_b31 (C : kC p l e rm_T_number s m args below meth c D (tyG cI cL cZ) A 5 cX3_number yX3_number.cls (Cond.code yX3_number cX3_number 5 (some .int) :: WS) (some .int)) {X : kX} (hE : kEs X A s) {a_this : Nat} {a_letters : Nat} {v1 : Int32} {v2 : Int32} {v3 : Int32} {v4 : Int32} {c_size : Int32} {c_token : Int32} {c_place : Int32} {c_end : Int32} {c_letters : (Nat → Int32)} {x : ((Int32 × Int32) ⊕ Int32)} (h : f_T_number_b31 c_size c_end c_letters v3 v4 = some x)
    (kc : ∀ s', x = .inl s' → kW p l e rm_T_number s m args below meth c D A 5 (cells_T_number cI cL cZ a_this a_letters c_size c_token c_place c_end c_letters) [(0, .ref a_this), (1, .int v1), (2, .int v2), (3, .int s'.1), (4, .int s'.2)] Q 31 [])
    (k0 : ∀ r, x = .inr r → kW p l e rm_T_number s m args below meth c D A 5 (cells_T_number cI cL cZ a_this a_letters c_size c_token c_place c_end c_letters) [(0, .ref a_this), (1, .int v1), (2, .int v2), (3, .int r)] Q 61 []) :
    kW p l e rm_T_number s m args below meth c D A 5 (cells_T_number cI cL cZ a_this a_letters c_size c_token c_place c_end c_letters) [(0, .ref a_this), (1, .int v1), (2, .int v2), (3, .int v3), (4, .int v4)] Q 31 [] := by
  unfold f_T_number_b31 at h
  refine k_iload C dX3_number_31 4 rfl ?_
  refine k_aload_n C dX3_number_33 0 rfl rfl ?_
  refine k_get C (C0 := RX3) (T := TX3) (N := 5) (fun w h => List.mem_cons_of_mem _ (us_T w h)) 0 rfl rfl 4 (by decide) (List.mem_cons_of_mem _ wq_173) rfl rfl dX3_number_34 ?_
  refine k_icmp_ge C (tgt := 61) dX3_number_37 (by decide) (fun c_37 => ?_) (fun c_37 => ?_)
  · have h := ifT c_37 h
    refine k_lv (lv' := [(0, .ref a_this), (1, .int v1), (2, .int v2), (3, .int v3)]) [0, 1, 2, 3] rfl ?_
    exact k0 _ (Option.some.inj h).symm
  · have h := ifF c_37 h
    refine k_iload_n C dX3_number_40 3 rfl rfl ?_
    refine k_bipush C (v := (10 : Int32)) dX3_number_41 (by decide) ?_
    refine k_imul C dX3_number_43 ?_
    refine k_aload_n C dX3_number_44 0 rfl rfl ?_
    refine k_iload C dX3_number_45 4 rfl ?_
    obtain ⟨x1, hx1, h⟩ := bindE h
    refine kcallR_i C (wc := (cells_T_letterAt cI cL cZ a_this a_letters c_size c_token c_place c_end c_letters)) (r := x1) [0, 1] (fun H locs ls hP hD hS hF hz => krunV C (q0 := 0) (ci := 3) (c_T_letterAt l D cI cL cZ H.size a_this a_letters v4 c_size c_token c_place c_end c_letters x1 hx1) (cwV 1 C.2.2.2.2.1 (gV wq_176 wq_177 wq_178 wq_161 wq_175) rfl rfl rfl (by decide +kernel) ⟨(Nat.le_of_ble_eq_true rfl), (Nat.le_of_ble_eq_true rfl)⟩) rfl rfl kEnv_T rfl rfl (Nat.le_of_ble_eq_true rfl) dX3_number_47 hP hD hz) rfl (by decide) ?_
    refine k_iadd C dX3_number_50 ?_
    refine k_bipush C (v := (48 : Int32)) dX3_number_51 (by decide) ?_
    refine k_isub C dX3_number_53 ?_
    refine k_istore_n C (lv' := [(3, .int (((v3 * (10 : Int32)) + x1) - (48 : Int32))), (0, .ref a_this), (1, .int v1), (2, .int v2), (4, .int v4)]) dX3_number_54 rfl (by decide) rfl ?_
    refine k_iinc C (v := (v4 + (1 : Int32))) (lv' := [(4, .int (v4 + (1 : Int32))), (3, .int (((v3 * (10 : Int32)) + x1) - (48 : Int32))), (0, .ref a_this), (1, .int v1), (2, .int v2)]) dX3_number_55 4 rfl rfl (by decide) rfl ?_
    refine k_goto C (tgt := 31) dX3_number_58 (by decide) ?_
    refine k_lv (lv' := [(0, .ref a_this), (1, .int v1), (2, .int v2), (3, .int (((v3 * (10 : Int32)) + x1) - (48 : Int32))), (4, .int (v4 + (1 : Int32)))]) [2, 3, 4, 1, 0] rfl ?_
    exact kc _ (Option.some.inj h).symm
set_option maxRecDepth 100000 in
set_option maxHeartbeats 4000000 in
theorem s_T_number_l31 (C : kC p l e rm_T_number s m args below meth c D (tyG cI cL cZ) A 5 cX3_number yX3_number.cls (Cond.code yX3_number cX3_number 5 (some .int) :: WS) (some .int)) {X : kX} (hE : kEs X A s) {a_this : Nat} {a_letters : Nat} {v1 : Int32} {v2 : Int32} {v3 : Int32} {v4 : Int32} {c_size : Int32} {c_token : Int32} {c_place : Int32} {c_end : Int32} {c_letters : (Nat → Int32)} {x : Int32} (h : f_T_number_l31 c_size c_end c_letters v3 v4 = some x)
    (k0 : kW p l e rm_T_number s m args below meth c D A 5 (cells_T_number cI cL cZ a_this a_letters c_size c_token c_place c_end c_letters) [(0, .ref a_this), (1, .int v1), (2, .int v2), (3, .int x)] Q 61 []) :
    kW p l e rm_T_number s m args below meth c D A 5 (cells_T_number cI cL cZ a_this a_letters c_size c_token c_place c_end c_letters) [(0, .ref a_this), (1, .int v1), (2, .int v2), (3, .int v3), (4, .int v4)] Q 31 [] := by
  unfold f_T_number_l31 at h
  exact iter_W (body := fun s => f_T_number_b31 c_size c_end c_letters s.1 s.2) (r := x) (T := fun sg => kW p l e rm_T_number s m args below meth c D A 5 (cells_T_number cI cL cZ a_this a_letters c_size c_token c_place c_end c_letters) [(0, .ref a_this), (1, .int v1), (2, .int v2), (3, .int sg.1), (4, .int sg.2)] Q 31 []) (fun sg y hy hc _ hr => s_T_number_b31 C hE (v1 := v1) (v2 := v2) (v3 := sg.1) (v4 := sg.2) (c_size := c_size) (c_token := c_token) (c_place := c_place) (c_end := c_end) (c_letters := c_letters) (x := y) hy hc (fun r e => by rw [hr r e]; exact k0)) FUEL (v3, v4) h
set_option maxRecDepth 100000 in
set_option maxHeartbeats 4000000 in
theorem s_T_number (C : kC p l e rm_T_number s m args below meth c D (tyG cI cL cZ) A 5 cX3_number yX3_number.cls (Cond.code yX3_number cX3_number 5 (some .int) :: WS) (some .int)) {X : kX} (hE : kEs X A s) {a_this : Nat} {a_letters : Nat} {v1 : Int32} {v2 : Int32} {c_size : Int32} {c_token : Int32} {c_place : Int32} {c_end : Int32} {c_letters : (Nat → Int32)} {x : (Int32 × Int32 × Int32 × Int32)} (h : f_T_number v1 v2 c_size c_token c_place c_end c_letters = some x) :
    kW p l e rm_T_number s m args below meth c D A 5 (cells_T_number cI cL cZ a_this a_letters c_size c_token c_place c_end c_letters) [(0, .ref a_this), (1, .int v1), (2, .int v2)] (MQ below (kQi D A (cells_T_number cI cL cZ a_this a_letters c_size x.2.1 x.2.2.1 x.2.2.2 c_letters) x.1) args s 0 0 A) 0 [] := by
  unfold f_T_number at h
  refine k_aload_n C dX3_number_0 0 rfl rfl ?_
  refine k_get C (C0 := RX3) (T := TX3) (N := 5) (fun w h => List.mem_cons_of_mem _ (us_T w h)) 0 rfl rfl 2 (by decide) (List.mem_cons_of_mem _ wq_182) rfl rfl dX3_number_1 ?_
  refine k_iconst C (v := (2 : Int32)) dX3_number_4 (by decide) ?_
  refine k_icmp_ne C (tgt := 21) dX3_number_5 (by decide) (fun c_5 => ?_) (fun c_5 => ?_)
  · have h := ifF c_5 h
    refine k_iconst C (v := (-1 : Int32)) dX3_number_21 (by decide) ?_
    obtain rfl := Option.some.inj h
    exact kret_i C rfl dX3_number_22
  · have h := ifT c_5 h
    refine k_aload_n C dX3_number_8 0 rfl rfl ?_
    refine k_get C (C0 := RX3) (T := TX3) (N := 5) (fun w h => List.mem_cons_of_mem _ (us_T w h)) 0 rfl rfl 4 (by decide) (List.mem_cons_of_mem _ wq_173) rfl rfl dX3_number_9 ?_
    refine k_aload_n C dX3_number_12 0 rfl rfl ?_
    refine k_get C (C0 := RX3) (T := TX3) (N := 5) (fun w h => List.mem_cons_of_mem _ (us_T w h)) 0 rfl rfl 3 (by decide) (List.mem_cons_of_mem _ wq_174) rfl rfl dX3_number_13 ?_
    refine k_isub C dX3_number_16 ?_
    refine k_iconst C (v := (2 : Int32)) dX3_number_17 (by decide) ?_
    refine k_icmp_le C (tgt := 23) dX3_number_18 (by decide) (fun c_18 => ?_) (fun c_18 => ?_)
    · have h := ifT c_18 h
      refine k_iconst C (v := (0 : Int32)) dX3_number_23 (by decide) ?_
      refine k_istore_n C (lv' := [(3, .int (0 : Int32)), (0, .ref a_this), (1, .int v1), (2, .int v2)]) dX3_number_24 rfl (by decide) rfl ?_
      refine k_aload_n C dX3_number_25 1 rfl rfl ?_
      refine k_get C (C0 := RX3) (T := TX3) (N := 5) (fun w h => List.mem_cons_of_mem _ (us_T w h)) 0 rfl rfl 3 (by decide) (List.mem_cons_of_mem _ wq_174) rfl rfl dX3_number_26 ?_
      refine k_istore C (lv' := [(4, .int c_place), (3, .int (0 : Int32)), (0, .ref a_this), (1, .int v1), (2, .int v2)]) dX3_number_29 (by decide) rfl ?_
      obtain ⟨x2, hx2, h⟩ := bindE h
      refine k_lv (lv' := [(0, .ref a_this), (1, .int v1), (2, .int v2), (3, .int (0 : Int32)), (4, .int c_place)]) [2, 3, 4, 1, 0] rfl ?_
      refine s_T_number_l31 C hE hx2 ?_
      refine k_iload_n C dX3_number_61 3 rfl rfl ?_
      refine k_iload_n C dX3_number_62 1 rfl rfl ?_
      refine k_iload_n C dX3_number_63 2 rfl rfl ?_
      obtain ⟨x3, hx3, h⟩ := bindE h
      refine kcallE_i C (r := x3) (fun H locs ls hP hD hS hF hz => krunSN C (c_M_isWithin l D cI cL cZ H.size x2 v1 v2 x3 hx3) ⟨va_cnB 3 C.2.2.2.2.1 (gW wq_0) rfl rfl rfl (hE.2.2.2.2.2.2.2 (RX3, 19, yX4_isWithin) (by decide +kernel)) (C.2.2.2.2.1 _ (List.mem_cons_of_mem _ wq_3)) (by decide +kernel) ⟨(Nat.le_of_ble_eq_true rfl), (Nat.le_of_ble_eq_true rfl)⟩, C.2.2.2.2.1 _ (List.mem_cons_of_mem _ wq_2), trivial⟩ kEnv_T rfl rfl (Nat.le_of_ble_eq_true rfl) dX3_number_64 hP hD hz) ?_
      refine k_if_ne C (tgt := 72) dX3_number_67 (by decide) (fun c_67 => ?_) (fun c_67 => ?_)
      · have h := ifF c_67 h
        refine k_aload_n C dX3_number_72 0 rfl rfl ?_
        obtain ⟨x4, hx4, h⟩ := bindE h
        refine kcallU_v C (wc := (cells_T_next cI cL cZ a_this a_letters c_size c_token c_place c_end c_letters)) (w1 := (cells_T_next cI cL cZ a_this a_letters c_size x4.1 x4.2.1 x4.2.2 c_letters)) (ws' := (cells_T_number cI cL cZ a_this a_letters c_size x4.1 x4.2.1 x4.2.2 c_letters)) [0, 1] (fun H locs ls hP hD hS hF hz => krunV C (q0 := 0) (ci := 3) (c_T_next l D cI cL cZ H.size a_this a_letters c_size c_token c_place c_end c_letters x4 hx4) (cwV 0 C.2.2.2.2.1 (gV wq_186 wq_187 wq_188 wq_161 wq_185) rfl rfl rfl (by decide +kernel) ⟨(Nat.le_of_ble_eq_true rfl), (Nat.le_of_ble_eq_true rfl)⟩) rfl rfl kEnv_T rfl rfl (Nat.le_of_ble_eq_true rfl) dX3_number_73 hP hD hz) rfl (by decide) rfl rfl ?_
        refine k_iload_n C dX3_number_76 3 rfl rfl ?_
        obtain rfl := Option.some.inj h
        exact kret_i C rfl dX3_number_77
      · have h := ifT c_67 h
        refine k_iconst C (v := (-1 : Int32)) dX3_number_70 (by decide) ?_
        obtain rfl := Option.some.inj h
        exact kret_i C rfl dX3_number_71
    · have h := ifF c_18 h
      refine k_iconst C (v := (-1 : Int32)) dX3_number_21 (by decide) ?_
      obtain rfl := Option.some.inj h
      exact kret_i C rfl dX3_number_22
theorem c_T_number (l : Launch) (D : va_G) (cI : ClassId) (cL : ClassId) (cZ : ClassId) (X : kX) (sz : Nat) (a_this : Nat) (a_letters : Nat) (v1 : Int32) (v2 : Int32) (c_size : Int32) (c_token : Int32) (c_place : Int32) (c_end : Int32) (c_letters : (Nat → Int32)) (x : (Int32 × Int32 × Int32 × Int32)) (h : f_T_number v1 v2 c_size c_token c_place c_end c_letters = some x) :
    Met l yX3_number (Cond.code yX3_number cX3_number 5 (some .int) :: WS) rm_T_number (kP D (tyG cI cL cZ) (kEs X (va_A (cells_T_number cI cL cZ a_this a_letters c_size c_token c_place c_end c_letters) sz)) [.ref a_this, .int v1, .int v2] sz (cells_T_number cI cL cZ a_this a_letters c_size c_token c_place c_end c_letters)) (kQi D (va_A (cells_T_number cI cL cZ a_this a_letters c_size c_token c_place c_end c_letters) sz) (cells_T_number cI cL cZ a_this a_letters c_size x.2.1 x.2.2.1 x.2.2.2 c_letters) x.1) 0 0 (va_A (cells_T_number cI cL cZ a_this a_letters c_size c_token c_place c_end c_letters) sz) :=
  kmet (by decide) (Nat.le_of_ble_eq_true rfl) rfl (fun p e s m below meth c C hE => s_T_number C hE h)
abbrev cells_T_isFootTold (cI : ClassId) (cL : ClassId) (cZ : ClassId) (a_this : Nat) (a_letters : Nat) (a_p1 : Nat) (a_p1_stones : Nat) (a_p1_kinds : Nat) (a_p1_weights : Nat) (a_p1_chances : Nat) (c_size : Int32) (c_token : Int32) (c_place : Int32) (c_end : Int32) (c_letters : (Nat → Int32)) (c_p1_width : Int32) (c_p1_rain : Int32) (c_p1_ear : Int32) (c_p1_walkers : Int32) (c_p1_seed : Int32) (c_p1_kinds : (Nat → Int32)) (c_p1_weights : (Nat → Int32)) (c_p1_chances : (Nat → Int32)) : va_W := [(a_this, .inr (3, [.ref a_letters, .int c_size, .int c_token, .int c_place, .int c_end])), (a_letters, .inl (cI, 250, .inl c_letters)), (a_p1, .inr (0, [.ref a_p1_stones, .ref a_p1_kinds, .ref a_p1_weights, .ref a_p1_chances, .int c_p1_width, .int c_p1_rain, .int c_p1_ear, .int c_p1_walkers, .int c_p1_seed])), (a_p1_kinds, .inl (cI, 8, .inl c_p1_kinds)), (a_p1_weights, .inl (cI, 8, .inl c_p1_weights)), (a_p1_chances, .inl (cI, 8, .inl c_p1_chances))]
abbrev rm_T_isFootTold : Room := { frames := 3, cells := 0, slots := 0, locals := 65 }
set_option maxRecDepth 100000 in
set_option maxHeartbeats 4000000 in
theorem s_T_isFootTold (C : kC p l e rm_T_isFootTold s m args below meth c D (tyG cI cL cZ) A 5 cX3_isFootTold yX3_isFootTold.cls (Cond.code yX3_isFootTold cX3_isFootTold 5 (some .boolean) :: WS) (some .boolean)) {X : kX} (hE : kEs X A s) {a_this : Nat} {a_letters : Nat} {a_p1 : Nat} {a_p1_stones : Nat} {a_p1_kinds : Nat} {a_p1_weights : Nat} {a_p1_chances : Nat} {c_size : Int32} {c_token : Int32} {c_place : Int32} {c_end : Int32} {c_letters : (Nat → Int32)} {c_p1_width : Int32} {c_p1_rain : Int32} {c_p1_ear : Int32} {c_p1_walkers : Int32} {c_p1_seed : Int32} {c_p1_kinds : (Nat → Int32)} {c_p1_weights : (Nat → Int32)} {c_p1_chances : (Nat → Int32)} {x : (Int32 × Int32 × Int32 × Int32 × Int32 × (Nat → Int32) × (Nat → Int32) × (Nat → Int32))} (h : f_T_isFootTold c_size c_token c_place c_end c_letters c_p1_walkers c_p1_kinds c_p1_weights c_p1_chances = some x) :
    kW p l e rm_T_isFootTold s m args below meth c D A 5 (cells_T_isFootTold cI cL cZ a_this a_letters a_p1 a_p1_stones a_p1_kinds a_p1_weights a_p1_chances c_size c_token c_place c_end c_letters c_p1_width c_p1_rain c_p1_ear c_p1_walkers c_p1_seed c_p1_kinds c_p1_weights c_p1_chances) [(0, .ref a_this), (1, .ref a_p1)] (MQ below (kQi D A (cells_T_isFootTold cI cL cZ a_this a_letters a_p1 a_p1_stones a_p1_kinds a_p1_weights a_p1_chances c_size x.2.1 x.2.2.1 x.2.2.2.1 c_letters c_p1_width c_p1_rain c_p1_ear x.2.2.2.2.1 c_p1_seed x.2.2.2.2.2.1 x.2.2.2.2.2.2.1 x.2.2.2.2.2.2.2) x.1) args s 0 0 A) 0 [] := by
  unfold f_T_isFootTold at h
  refine k_aload_n C dX3_isFootTold_0 0 rfl rfl ?_
  obtain ⟨x1, hx1, h⟩ := bindE h
  refine kcallU_v C (wc := (cells_T_next cI cL cZ a_this a_letters c_size c_token c_place c_end c_letters)) (w1 := (cells_T_next cI cL cZ a_this a_letters c_size x1.1 x1.2.1 x1.2.2 c_letters)) (ws' := (cells_T_isFootTold cI cL cZ a_this a_letters a_p1 a_p1_stones a_p1_kinds a_p1_weights a_p1_chances c_size x1.1 x1.2.1 x1.2.2 c_letters c_p1_width c_p1_rain c_p1_ear c_p1_walkers c_p1_seed c_p1_kinds c_p1_weights c_p1_chances)) [0, 1] (fun H locs ls hP hD hS hF hz => krunV C (q0 := 0) (ci := 3) (c_T_next l D cI cL cZ H.size a_this a_letters c_size c_token c_place c_end c_letters x1 hx1) (cwV 0 C.2.2.2.2.1 (gV wq_186 wq_187 wq_188 wq_161 wq_185) rfl rfl rfl (by decide +kernel) ⟨(Nat.le_of_ble_eq_true rfl), (Nat.le_of_ble_eq_true rfl)⟩) rfl rfl kEnv_T rfl rfl (Nat.le_of_ble_eq_true rfl) dX3_isFootTold_1 hP hD hz) rfl (by decide) rfl rfl ?_
  refine k_aload_n C dX3_isFootTold_4 0 rfl rfl ?_
  refine k_iconst C (v := (0 : Int32)) dX3_isFootTold_5 (by decide) ?_
  refine k_iconst C (v := (5 : Int32)) dX3_isFootTold_6 (by decide) ?_
  obtain ⟨x2, hx2, h⟩ := bindE h
  refine kcallU_i C (wc := (cells_T_number cI cL cZ a_this a_letters c_size x1.1 x1.2.1 x1.2.2 c_letters)) (w1 := (cells_T_number cI cL cZ a_this a_letters c_size x2.2.1 x2.2.2.1 x2.2.2.2 c_letters)) (ws' := (cells_T_isFootTold cI cL cZ a_this a_letters a_p1 a_p1_stones a_p1_kinds a_p1_weights a_p1_chances c_size x2.2.1 x2.2.2.1 x2.2.2.2 c_letters c_p1_width c_p1_rain c_p1_ear c_p1_walkers c_p1_seed c_p1_kinds c_p1_weights c_p1_chances)) (r := x2.1) [0, 1] (fun H locs ls hP hD hS hF hz => krunV C (q0 := 0) (ci := 3) (c_T_number l D cI cL cZ X H.size a_this a_letters (0 : Int32) (5 : Int32) c_size x1.1 x1.2.1 x1.2.2 c_letters x2 hx2) (cwV 2 C.2.2.2.2.1 (gV wq_190 wq_191 wq_192 wq_161 wq_189) rfl rfl rfl (by decide +kernel) ⟨(Nat.le_of_ble_eq_true rfl), (Nat.le_of_ble_eq_true rfl)⟩) rfl rfl (kEs_call hE hS hF) rfl rfl (Nat.le_of_ble_eq_true rfl) dX3_isFootTold_7 hP hD hz) rfl (by decide) rfl rfl ?_
  refine k_istore_n C (lv' := [(2, .int x2.1), (0, .ref a_this), (1, .ref a_p1)]) dX3_isFootTold_10 rfl (by decide) rfl ?_
  refine k_iload_n C dX3_isFootTold_11 0 rfl rfl ?_
  refine k_iconst C (v := (-1 : Int32)) dX3_isFootTold_12 (by decide) ?_
  refine k_icmp_ne C (tgt := 18) dX3_isFootTold_13 (by decide) (fun c_13 => ?_) (fun c_13 => ?_)
  · have h := ifF c_13 h
    refine k_aload_n C dX3_isFootTold_18 1 rfl rfl ?_
    refine k_iconst C (v := (0 : Int32)) dX3_isFootTold_19 (by decide) ?_
    refine k_bipush C (v := (9 : Int32)) dX3_isFootTold_20 (by decide) ?_
    obtain ⟨x3, hx3, h⟩ := bindE h
    refine kcallU_i C (wc := (cells_T_number cI cL cZ a_this a_letters c_size x2.2.1 x2.2.2.1 x2.2.2.2 c_letters)) (w1 := (cells_T_number cI cL cZ a_this a_letters c_size x3.2.1 x3.2.2.1 x3.2.2.2 c_letters)) (ws' := (cells_T_isFootTold cI cL cZ a_this a_letters a_p1 a_p1_stones a_p1_kinds a_p1_weights a_p1_chances c_size x3.2.1 x3.2.2.1 x3.2.2.2 c_letters c_p1_width c_p1_rain c_p1_ear c_p1_walkers c_p1_seed c_p1_kinds c_p1_weights c_p1_chances)) (r := x3.1) [0, 1] (fun H locs ls hP hD hS hF hz => krunV C (q0 := 0) (ci := 3) (c_T_number l D cI cL cZ X H.size a_this a_letters (0 : Int32) (9 : Int32) c_size x2.2.1 x2.2.2.1 x2.2.2.2 c_letters x3 hx3) (cwV 2 C.2.2.2.2.1 (gV wq_190 wq_191 wq_192 wq_161 wq_189) rfl rfl rfl (by decide +kernel) ⟨(Nat.le_of_ble_eq_true rfl), (Nat.le_of_ble_eq_true rfl)⟩) rfl rfl (kEs_call hE hS hF) rfl rfl (Nat.le_of_ble_eq_true rfl) dX3_isFootTold_22 hP hD hz) rfl (by decide) rfl rfl ?_
    refine k_istore_n C (lv' := [(3, .int x3.1), (2, .int x2.1), (0, .ref a_this), (1, .ref a_p1)]) dX3_isFootTold_25 rfl (by decide) rfl ?_
    refine k_iload_n C dX3_isFootTold_26 0 rfl rfl ?_
    refine k_iconst C (v := (-1 : Int32)) dX3_isFootTold_27 (by decide) ?_
    refine k_icmp_ne C (tgt := 33) dX3_isFootTold_28 (by decide) (fun c_28 => ?_) (fun c_28 => ?_)
    · have h := ifF c_28 h
      refine k_aload_n C dX3_isFootTold_33 2 rfl rfl ?_
      refine k_iconst C (v := (1 : Int32)) dX3_isFootTold_34 (by decide) ?_
      refine k_bipush C (v := (99 : Int32)) dX3_isFootTold_35 (by decide) ?_
      obtain ⟨x4, hx4, h⟩ := bindE h
      refine kcallU_i C (wc := (cells_T_number cI cL cZ a_this a_letters c_size x3.2.1 x3.2.2.1 x3.2.2.2 c_letters)) (w1 := (cells_T_number cI cL cZ a_this a_letters c_size x4.2.1 x4.2.2.1 x4.2.2.2 c_letters)) (ws' := (cells_T_isFootTold cI cL cZ a_this a_letters a_p1 a_p1_stones a_p1_kinds a_p1_weights a_p1_chances c_size x4.2.1 x4.2.2.1 x4.2.2.2 c_letters c_p1_width c_p1_rain c_p1_ear c_p1_walkers c_p1_seed c_p1_kinds c_p1_weights c_p1_chances)) (r := x4.1) [0, 1] (fun H locs ls hP hD hS hF hz => krunV C (q0 := 0) (ci := 3) (c_T_number l D cI cL cZ X H.size a_this a_letters (1 : Int32) (99 : Int32) c_size x3.2.1 x3.2.2.1 x3.2.2.2 c_letters x4 hx4) (cwV 2 C.2.2.2.2.1 (gV wq_190 wq_191 wq_192 wq_161 wq_189) rfl rfl rfl (by decide +kernel) ⟨(Nat.le_of_ble_eq_true rfl), (Nat.le_of_ble_eq_true rfl)⟩) rfl rfl (kEs_call hE hS hF) rfl rfl (Nat.le_of_ble_eq_true rfl) dX3_isFootTold_37 hP hD hz) rfl (by decide) rfl rfl ?_
      refine k_istore C (lv' := [(4, .int x4.1), (3, .int x3.1), (2, .int x2.1), (0, .ref a_this), (1, .ref a_p1)]) dX3_isFootTold_40 (by decide) rfl ?_
      refine k_iload C dX3_isFootTold_42 0 rfl ?_
      refine k_iconst C (v := (-1 : Int32)) dX3_isFootTold_44 (by decide) ?_
      refine k_icmp_ne C (tgt := 50) dX3_isFootTold_45 (by decide) (fun c_45 => ?_) (fun c_45 => ?_)
      · have h := ifF c_45 h
        refine k_aload_n C dX3_isFootTold_50 4 rfl rfl ?_
        refine k_iload_n C dX3_isFootTold_51 2 rfl rfl ?_
        refine k_iload_n C dX3_isFootTold_52 1 rfl rfl ?_
        refine k_iload C dX3_isFootTold_53 0 rfl ?_
        obtain ⟨x5, hx5, h⟩ := bindE h
        refine kcallU_i C (wc := (cells_D_welcome cI cL cZ a_p1 a_p1_stones a_p1_kinds a_p1_weights a_p1_chances c_p1_width c_p1_rain c_p1_ear c_p1_walkers c_p1_seed c_p1_kinds c_p1_weights c_p1_chances)) (w1 := (cells_D_welcome cI cL cZ a_p1 a_p1_stones a_p1_kinds a_p1_weights a_p1_chances c_p1_width c_p1_rain c_p1_ear x5.2.1 c_p1_seed x5.2.2.1 x5.2.2.2.1 x5.2.2.2.2)) (ws' := (cells_T_isFootTold cI cL cZ a_this a_letters a_p1 a_p1_stones a_p1_kinds a_p1_weights a_p1_chances c_size x4.2.1 x4.2.2.1 x4.2.2.2 c_letters c_p1_width c_p1_rain c_p1_ear x5.2.1 c_p1_seed x5.2.2.1 x5.2.2.2.1 x5.2.2.2.2)) (r := x5.1) [2, 3, 4, 5] (fun H locs ls hP hD hS hF hz => krunV C (q0 := 0) (ci := 0) (c_D_welcome l D cI cL cZ X H.size a_p1 a_p1_stones a_p1_kinds a_p1_weights a_p1_chances x2.1 x3.1 x4.1 c_p1_width c_p1_rain c_p1_ear c_p1_walkers c_p1_seed c_p1_kinds c_p1_weights c_p1_chances x5 hx5) (cwV 3 C.2.2.2.2.1 (gV wq_193 wq_152 wq_153 wq_72 wq_150) rfl rfl rfl (by decide +kernel) ⟨(Nat.le_of_ble_eq_true rfl), (Nat.le_of_ble_eq_true rfl)⟩) rfl rfl (kEs_call hE hS hF) rfl rfl (Nat.le_of_ble_eq_true rfl) dX3_isFootTold_55 hP hD hz) rfl (by decide) rfl rfl ?_
        refine k_pop C dX3_isFootTold_58 rfl ?_
        refine k_iconst C (v := (1 : Int32)) dX3_isFootTold_59 (by decide) ?_
        obtain rfl := Option.some.inj h
        exact kret_z C rfl nz1 dX3_isFootTold_60
      · have h := ifT c_45 h
        refine k_iconst C (v := (0 : Int32)) dX3_isFootTold_48 (by decide) ?_
        obtain rfl := Option.some.inj h
        exact kret_z C rfl nz0 dX3_isFootTold_49
    · have h := ifT c_28 h
      refine k_iconst C (v := (0 : Int32)) dX3_isFootTold_31 (by decide) ?_
      obtain rfl := Option.some.inj h
      exact kret_z C rfl nz0 dX3_isFootTold_32
  · have h := ifT c_13 h
    refine k_iconst C (v := (0 : Int32)) dX3_isFootTold_16 (by decide) ?_
    obtain rfl := Option.some.inj h
    exact kret_z C rfl nz0 dX3_isFootTold_17
theorem c_T_isFootTold (l : Launch) (D : va_G) (cI : ClassId) (cL : ClassId) (cZ : ClassId) (X : kX) (sz : Nat) (a_this : Nat) (a_letters : Nat) (a_p1 : Nat) (a_p1_stones : Nat) (a_p1_kinds : Nat) (a_p1_weights : Nat) (a_p1_chances : Nat) (c_size : Int32) (c_token : Int32) (c_place : Int32) (c_end : Int32) (c_letters : (Nat → Int32)) (c_p1_width : Int32) (c_p1_rain : Int32) (c_p1_ear : Int32) (c_p1_walkers : Int32) (c_p1_seed : Int32) (c_p1_kinds : (Nat → Int32)) (c_p1_weights : (Nat → Int32)) (c_p1_chances : (Nat → Int32)) (x : (Int32 × Int32 × Int32 × Int32 × Int32 × (Nat → Int32) × (Nat → Int32) × (Nat → Int32))) (h : f_T_isFootTold c_size c_token c_place c_end c_letters c_p1_walkers c_p1_kinds c_p1_weights c_p1_chances = some x) :
    Met l yX3_isFootTold (Cond.code yX3_isFootTold cX3_isFootTold 5 (some .boolean) :: WS) rm_T_isFootTold (kP D (tyG cI cL cZ) (kEs X (va_A (cells_T_isFootTold cI cL cZ a_this a_letters a_p1 a_p1_stones a_p1_kinds a_p1_weights a_p1_chances c_size c_token c_place c_end c_letters c_p1_width c_p1_rain c_p1_ear c_p1_walkers c_p1_seed c_p1_kinds c_p1_weights c_p1_chances) sz)) [.ref a_this, .ref a_p1] sz (cells_T_isFootTold cI cL cZ a_this a_letters a_p1 a_p1_stones a_p1_kinds a_p1_weights a_p1_chances c_size c_token c_place c_end c_letters c_p1_width c_p1_rain c_p1_ear c_p1_walkers c_p1_seed c_p1_kinds c_p1_weights c_p1_chances)) (kQi D (va_A (cells_T_isFootTold cI cL cZ a_this a_letters a_p1 a_p1_stones a_p1_kinds a_p1_weights a_p1_chances c_size c_token c_place c_end c_letters c_p1_width c_p1_rain c_p1_ear c_p1_walkers c_p1_seed c_p1_kinds c_p1_weights c_p1_chances) sz) (cells_T_isFootTold cI cL cZ a_this a_letters a_p1 a_p1_stones a_p1_kinds a_p1_weights a_p1_chances c_size x.2.1 x.2.2.1 x.2.2.2.1 c_letters c_p1_width c_p1_rain c_p1_ear x.2.2.2.2.1 c_p1_seed x.2.2.2.2.2.1 x.2.2.2.2.2.2.1 x.2.2.2.2.2.2.2) x.1) 0 0 (va_A (cells_T_isFootTold cI cL cZ a_this a_letters a_p1 a_p1_stones a_p1_kinds a_p1_weights a_p1_chances c_size c_token c_place c_end c_letters c_p1_width c_p1_rain c_p1_ear c_p1_walkers c_p1_seed c_p1_kinds c_p1_weights c_p1_chances) sz) :=
  kmet (by decide) (Nat.le_of_ble_eq_true rfl) rfl (fun p e s m below meth c C hE => s_T_isFootTold C hE h)
abbrev cells_T_isTaken (cI : ClassId) (cL : ClassId) (cZ : ClassId) (a_this : Nat) (a_letters : Nat) (c_size : Int32) (c_token : Int32) (c_place : Int32) (c_end : Int32) (c_letters : (Nat → Int32)) : va_W := [(a_this, .inr (3, [.ref a_letters, .int c_size, .int c_token, .int c_place, .int c_end])), (a_letters, .inl (cI, 250, .inl c_letters))]
abbrev rm_T_isTaken : Room := { frames := 5, cells := 0, slots := 0, locals := 107 }
set_option maxRecDepth 100000 in
set_option maxHeartbeats 4000000 in
theorem s_T_isTaken (C : kC p l e rm_T_isTaken s m args below meth c D (tyG cI cL cZ) A 3 cX3_isTaken yX3_isTaken.cls (Cond.code yX3_isTaken cX3_isTaken 3 (some .boolean) :: WS) (some .boolean)) {X : kX} (hE : kEs X A s) {a_this : Nat} {a_letters : Nat} {v1 : Nat} {c_size : Int32} {c_token : Int32} {c_place : Int32} {c_end : Int32} {c_letters : (Nat → Int32)} (hv1 : v1 < 7) {x : (Int32 × Int32 × Int32 × Int32)} (h : f_T_isTaken v1 c_size c_token c_place c_end c_letters = some x) :
    kW p l e rm_T_isTaken s m args below meth c D A 3 (cells_T_isTaken cI cL cZ a_this a_letters c_size c_token c_place c_end c_letters) [(0, .ref a_this), (1, .ref (X.1 v1))] (MQ below (kQi D A (cells_T_isTaken cI cL cZ a_this a_letters c_size x.2.1 x.2.2.1 x.2.2.2 c_letters) x.1) args s 0 0 A) 0 [] := by
  unfold f_T_isTaken at h
  refine k_aload_n C dX3_isTaken_0 0 rfl rfl ?_
  refine k_aload_n C dX3_isTaken_1 1 rfl rfl ?_
  obtain ⟨x1, hx1, h⟩ := bindE h
  refine kcallR_i C (wc := (cells_T_isSpelt cI cL cZ a_this a_letters c_size c_token c_place c_end c_letters)) (r := x1) [0, 1] (fun H locs ls hP hD hS hF hz => krunV C (q0 := 0) (ci := 3) (c_T_isSpelt l D cI cL cZ X H.size a_this a_letters v1 c_size c_token c_place c_end c_letters hv1 x1 hx1) (cwV 1 C.2.2.2.2.1 (gV wq_195 wq_196 wq_197 wq_161 wq_194) rfl rfl rfl (by decide +kernel) ⟨(Nat.le_of_ble_eq_true rfl), (Nat.le_of_ble_eq_true rfl)⟩) rfl rfl (kEs_call hE hS hF) rfl rfl (Nat.le_of_ble_eq_true rfl) dX3_isTaken_2 hP hD hz) rfl (by decide) ?_
  refine k_istore_n C (lv' := [(2, .int x1), (0, .ref a_this), (1, .ref (X.1 v1))]) dX3_isTaken_5 rfl (by decide) rfl ?_
  refine k_iload_n C dX3_isTaken_6 0 rfl rfl ?_
  refine k_if_eq C (tgt := 14) dX3_isTaken_7 (by decide) (fun c_7 => ?_) (fun c_7 => ?_)
  · have h := ifT c_7 h
    refine k_iload_n C dX3_isTaken_14 0 rfl rfl ?_
    obtain ⟨x2, hx2, h⟩ := bindE h
    obtain ⟨hz, rfl⟩ := zrE hx2
    obtain rfl := Option.some.inj h
    exact kret_z C rfl hz dX3_isTaken_15
  · have h := ifF c_7 h
    refine k_aload_n C dX3_isTaken_10 1 rfl rfl ?_
    obtain ⟨x3, hx3, h⟩ := bindE h
    refine kcallU_v C (wc := (cells_T_next cI cL cZ a_this a_letters c_size c_token c_place c_end c_letters)) (w1 := (cells_T_next cI cL cZ a_this a_letters c_size x3.1 x3.2.1 x3.2.2 c_letters)) (ws' := (cells_T_isTaken cI cL cZ a_this a_letters c_size x3.1 x3.2.1 x3.2.2 c_letters)) [0, 1] (fun H locs ls hP hD hS hF hz => krunV C (q0 := 0) (ci := 3) (c_T_next l D cI cL cZ H.size a_this a_letters c_size c_token c_place c_end c_letters x3 hx3) (cwV 0 C.2.2.2.2.1 (gV wq_186 wq_187 wq_188 wq_161 wq_185) rfl rfl rfl (by decide +kernel) ⟨(Nat.le_of_ble_eq_true rfl), (Nat.le_of_ble_eq_true rfl)⟩) rfl rfl kEnv_T rfl rfl (Nat.le_of_ble_eq_true rfl) dX3_isTaken_11 hP hD hz) rfl (by decide) rfl rfl ?_
    refine k_iload_n C dX3_isTaken_14 0 rfl rfl ?_
    obtain ⟨x4, hx4, h⟩ := bindE h
    obtain ⟨hz, rfl⟩ := zrE hx4
    obtain rfl := Option.some.inj h
    exact kret_z C rfl hz dX3_isTaken_15
theorem c_T_isTaken (l : Launch) (D : va_G) (cI : ClassId) (cL : ClassId) (cZ : ClassId) (X : kX) (sz : Nat) (a_this : Nat) (a_letters : Nat) (v1 : Nat) (c_size : Int32) (c_token : Int32) (c_place : Int32) (c_end : Int32) (c_letters : (Nat → Int32)) (hv1 : v1 < 7) (x : (Int32 × Int32 × Int32 × Int32)) (h : f_T_isTaken v1 c_size c_token c_place c_end c_letters = some x) :
    Met l yX3_isTaken (Cond.code yX3_isTaken cX3_isTaken 3 (some .boolean) :: WS) rm_T_isTaken (kP D (tyG cI cL cZ) (kEs X (va_A (cells_T_isTaken cI cL cZ a_this a_letters c_size c_token c_place c_end c_letters) sz)) [.ref a_this, .ref (X.1 v1)] sz (cells_T_isTaken cI cL cZ a_this a_letters c_size c_token c_place c_end c_letters)) (kQi D (va_A (cells_T_isTaken cI cL cZ a_this a_letters c_size c_token c_place c_end c_letters) sz) (cells_T_isTaken cI cL cZ a_this a_letters c_size x.2.1 x.2.2.1 x.2.2.2 c_letters) x.1) 0 0 (va_A (cells_T_isTaken cI cL cZ a_this a_letters c_size c_token c_place c_end c_letters) sz) :=
  kmet (by decide) (Nat.le_of_ble_eq_true rfl) rfl (fun p e s m below meth c C hE => s_T_isTaken C hE hv1 h)
abbrev cells_D_rakeAll (cI : ClassId) (cL : ClassId) (cZ : ClassId) (a_this : Nat) (a_stones : Nat) (a_kinds : Nat) (a_weights : Nat) (a_chances : Nat) (c_width : Int32) (c_rain : Int32) (c_ear : Int32) (c_walkers : Int32) (c_seed : Int32) (c_stones : (Nat → Int32)) : va_W := [(a_this, .inr (0, [.ref a_stones, .ref a_kinds, .ref a_weights, .ref a_chances, .int c_width, .int c_rain, .int c_ear, .int c_walkers, .int c_seed])), (a_stones, .inl (cI, 36, .inl c_stones))]
abbrev rm_D_rakeAll : Room := { frames := 2, cells := 0, slots := 0, locals := 52 }
set_option maxRecDepth 100000 in
set_option maxHeartbeats 4000000 in
theorem s_D_rakeAll_b2 (C : kC p l e rm_D_rakeAll s m args below meth c D (tyG cI cL cZ) A 2 cX0_rakeAll yX0_rakeAll.cls (Cond.code yX0_rakeAll cX0_rakeAll 2 none :: WS) none) {a_this : Nat} {a_stones : Nat} {a_kinds : Nat} {a_weights : Nat} {a_chances : Nat} {v1 : Int32} {c_width : Int32} {c_rain : Int32} {c_ear : Int32} {c_walkers : Int32} {c_seed : Int32} {c_stones : (Nat → Int32)} {x : ((Int32 × (Nat → Int32)) ⊕ (Nat → Int32))} (h : f_D_rakeAll_b2 c_width v1 c_stones = some x)
    (kc : ∀ s', x = .inl s' → kW p l e rm_D_rakeAll s m args below meth c D A 2 (cells_D_rakeAll cI cL cZ a_this a_stones a_kinds a_weights a_chances c_width c_rain c_ear c_walkers c_seed s'.2) [(0, .ref a_this), (1, .int s'.1)] Q 2 [])
    (k0 : ∀ r, x = .inr r → kW p l e rm_D_rakeAll s m args below meth c D A 2 (cells_D_rakeAll cI cL cZ a_this a_stones a_kinds a_weights a_chances c_width c_rain c_ear c_walkers c_seed r) [] Q 44 []) :
    kW p l e rm_D_rakeAll s m args below meth c D A 2 (cells_D_rakeAll cI cL cZ a_this a_stones a_kinds a_weights a_chances c_width c_rain c_ear c_walkers c_seed c_stones) [(0, .ref a_this), (1, .int v1)] Q 2 [] := by
  unfold f_D_rakeAll_b2 at h
  refine k_iload_n C dX0_rakeAll_2 1 rfl rfl ?_
  refine k_aload_n C dX0_rakeAll_3 0 rfl rfl ?_
  obtain ⟨x1, hx1, h⟩ := bindE h
  refine kcallR_i C (wc := (cells_D_cells cI cL cZ a_this a_stones a_kinds a_weights a_chances c_width c_rain c_ear c_walkers c_seed)) (r := x1) [0] (fun H locs ls hP hD hS hF hz => krunV C (q0 := 0) (ci := 0) (c_D_cells l D cI cL cZ H.size a_this a_stones a_kinds a_weights a_chances c_width c_rain c_ear c_walkers c_seed x1 hx1) (cwV 0 C.2.2.2.2.1 (gV wq_198 wq_133 wq_134 wq_72 wq_131) rfl rfl rfl (by decide +kernel) ⟨(Nat.le_of_ble_eq_true rfl), (Nat.le_of_ble_eq_true rfl)⟩) rfl rfl kEnv_T rfl rfl (Nat.le_of_ble_eq_true rfl) dX0_rakeAll_4 hP hD hz) rfl (by decide) ?_
  refine k_icmp_ge C (tgt := 44) dX0_rakeAll_7 (by decide) (fun c_7 => ?_) (fun c_7 => ?_)
  · have h := ifT c_7 h
    refine k_lv (lv' := []) [] rfl ?_
    exact k0 _ (Option.some.inj h).symm
  · have h := ifF c_7 h
    refine k_aload_n C dX0_rakeAll_10 0 rfl rfl ?_
    refine k_get C (C0 := RX0) (T := TX0) (N := 9) (fun w h => List.mem_cons_of_mem _ (us_D w h)) 0 rfl rfl 0 (by decide) (List.mem_cons_of_mem _ wq_85) rfl rfl dX0_rakeAll_11 ?_
    refine k_iload_n C dX0_rakeAll_14 1 rfl rfl ?_
    obtain ⟨x2, hx2, h⟩ := bindE h
    refine k_iald C 1 0 rfl rfl hx2 dX0_rakeAll_15 ?_
    refine k_if_eq C (tgt := 38) dX0_rakeAll_16 (by decide) (fun c_16 => ?_) (fun c_16 => ?_)
    · have h := ifT c_16 h
      refine k_iinc C (v := (v1 + (1 : Int32))) (lv' := [(1, .int (v1 + (1 : Int32))), (0, .ref a_this)]) dX0_rakeAll_38 1 rfl rfl (by decide) rfl ?_
      refine k_goto C (tgt := 2) dX0_rakeAll_41 (by decide) ?_
      refine k_lv (lv' := [(0, .ref a_this), (1, .int (v1 + (1 : Int32)))]) [1, 0] rfl ?_
      exact kc _ (Option.some.inj h).symm
    · have h := ifF c_16 h
      refine k_aload_n C dX0_rakeAll_19 0 rfl rfl ?_
      refine k_get C (C0 := RX0) (T := TX0) (N := 9) (fun w h => List.mem_cons_of_mem _ (us_D w h)) 0 rfl rfl 0 (by decide) (List.mem_cons_of_mem _ wq_85) rfl rfl dX0_rakeAll_20 ?_
      refine k_iload_n C dX0_rakeAll_23 1 rfl rfl ?_
      refine k_bipush C (v := (9 : Int32)) dX0_rakeAll_24 (by decide) ?_
      refine k_aload_n C dX0_rakeAll_26 0 rfl rfl ?_
      refine k_get C (C0 := RX0) (T := TX0) (N := 9) (fun w h => List.mem_cons_of_mem _ (us_D w h)) 0 rfl rfl 0 (by decide) (List.mem_cons_of_mem _ wq_85) rfl rfl dX0_rakeAll_27 ?_
      refine k_iload_n C dX0_rakeAll_30 1 rfl rfl ?_
      obtain ⟨x3, hx3, h⟩ := bindE h
      refine k_iald C 1 0 rfl rfl hx3 dX0_rakeAll_31 ?_
      refine k_iconst C (v := (1 : Int32)) dX0_rakeAll_32 (by decide) ?_
      refine k_iadd C dX0_rakeAll_33 ?_
      refine k_mmin C (List.mem_cons_of_mem _ wq_63) (List.mem_cons_of_mem _ wq_64) (List.mem_cons_of_mem _ wq_65) (List.mem_cons_of_mem _ wq_66) (Nat.le_of_ble_eq_true rfl) (Nat.le_of_ble_eq_true rfl) dX0_rakeAll_34 ?_
      obtain ⟨x4, hx4, h⟩ := bindE h
      refine k_iast C 1 0 (ws' := (cells_D_rakeAll cI cL cZ a_this a_stones a_kinds a_weights a_chances c_width c_rain c_ear c_walkers c_seed x4)) rfl rfl hx4 rfl dX0_rakeAll_37 ?_
      refine k_iinc C (v := (v1 + (1 : Int32))) (lv' := [(1, .int (v1 + (1 : Int32))), (0, .ref a_this)]) dX0_rakeAll_38 1 rfl rfl (by decide) rfl ?_
      refine k_goto C (tgt := 2) dX0_rakeAll_41 (by decide) ?_
      refine k_lv (lv' := [(0, .ref a_this), (1, .int (v1 + (1 : Int32)))]) [1, 0] rfl ?_
      exact kc _ (Option.some.inj h).symm
set_option maxRecDepth 100000 in
set_option maxHeartbeats 4000000 in
theorem s_D_rakeAll_l2 (C : kC p l e rm_D_rakeAll s m args below meth c D (tyG cI cL cZ) A 2 cX0_rakeAll yX0_rakeAll.cls (Cond.code yX0_rakeAll cX0_rakeAll 2 none :: WS) none) {a_this : Nat} {a_stones : Nat} {a_kinds : Nat} {a_weights : Nat} {a_chances : Nat} {v1 : Int32} {c_width : Int32} {c_rain : Int32} {c_ear : Int32} {c_walkers : Int32} {c_seed : Int32} {c_stones : (Nat → Int32)} {x : (Nat → Int32)} (h : f_D_rakeAll_l2 c_width v1 c_stones = some x)
    (k0 : kW p l e rm_D_rakeAll s m args below meth c D A 2 (cells_D_rakeAll cI cL cZ a_this a_stones a_kinds a_weights a_chances c_width c_rain c_ear c_walkers c_seed x) [] Q 44 []) :
    kW p l e rm_D_rakeAll s m args below meth c D A 2 (cells_D_rakeAll cI cL cZ a_this a_stones a_kinds a_weights a_chances c_width c_rain c_ear c_walkers c_seed c_stones) [(0, .ref a_this), (1, .int v1)] Q 2 [] := by
  unfold f_D_rakeAll_l2 at h
  exact iter_W (body := fun s => f_D_rakeAll_b2 c_width s.1 s.2) (r := x) (T := fun sg => kW p l e rm_D_rakeAll s m args below meth c D A 2 (cells_D_rakeAll cI cL cZ a_this a_stones a_kinds a_weights a_chances c_width c_rain c_ear c_walkers c_seed sg.2) [(0, .ref a_this), (1, .int sg.1)] Q 2 []) (fun sg y hy hc _ hr => s_D_rakeAll_b2 C (v1 := sg.1) (c_width := c_width) (c_rain := c_rain) (c_ear := c_ear) (c_walkers := c_walkers) (c_seed := c_seed) (c_stones := sg.2) (x := y) hy hc (fun r e => by rw [hr r e]; exact k0)) FUEL (v1, c_stones) h
set_option maxRecDepth 100000 in
set_option maxHeartbeats 4000000 in
theorem s_D_rakeAll (C : kC p l e rm_D_rakeAll s m args below meth c D (tyG cI cL cZ) A 2 cX0_rakeAll yX0_rakeAll.cls (Cond.code yX0_rakeAll cX0_rakeAll 2 none :: WS) none) {a_this : Nat} {a_stones : Nat} {a_kinds : Nat} {a_weights : Nat} {a_chances : Nat} {c_width : Int32} {c_rain : Int32} {c_ear : Int32} {c_walkers : Int32} {c_seed : Int32} {c_stones : (Nat → Int32)} {x : (Nat → Int32)} (h : f_D_rakeAll c_width c_stones = some x) :
    kW p l e rm_D_rakeAll s m args below meth c D A 2 (cells_D_rakeAll cI cL cZ a_this a_stones a_kinds a_weights a_chances c_width c_rain c_ear c_walkers c_seed c_stones) [(0, .ref a_this)] (MQ below (kQv D A (cells_D_rakeAll cI cL cZ a_this a_stones a_kinds a_weights a_chances c_width c_rain c_ear c_walkers c_seed x)) args s 0 0 A) 0 [] := by
  unfold f_D_rakeAll at h
  refine k_iconst C (v := (0 : Int32)) dX0_rakeAll_0 (by decide) ?_
  refine k_istore_n C (lv' := [(1, .int (0 : Int32)), (0, .ref a_this)]) dX0_rakeAll_1 rfl (by decide) rfl ?_
  obtain ⟨x5, hx5, h⟩ := bindE h
  refine k_lv (lv' := [(0, .ref a_this), (1, .int (0 : Int32))]) [1, 0] rfl ?_
  refine s_D_rakeAll_l2 C hx5 ?_
  obtain rfl := Option.some.inj h
  exact kret_v C rfl dX0_rakeAll_44
theorem c_D_rakeAll (l : Launch) (D : va_G) (cI : ClassId) (cL : ClassId) (cZ : ClassId) (sz : Nat) (a_this : Nat) (a_stones : Nat) (a_kinds : Nat) (a_weights : Nat) (a_chances : Nat) (c_width : Int32) (c_rain : Int32) (c_ear : Int32) (c_walkers : Int32) (c_seed : Int32) (c_stones : (Nat → Int32)) (x : (Nat → Int32)) (h : f_D_rakeAll c_width c_stones = some x) :
    Met l yX0_rakeAll (Cond.code yX0_rakeAll cX0_rakeAll 2 none :: WS) rm_D_rakeAll (kP D (tyG cI cL cZ) kTrue [.ref a_this] sz (cells_D_rakeAll cI cL cZ a_this a_stones a_kinds a_weights a_chances c_width c_rain c_ear c_walkers c_seed c_stones)) (kQv D (va_A (cells_D_rakeAll cI cL cZ a_this a_stones a_kinds a_weights a_chances c_width c_rain c_ear c_walkers c_seed c_stones) sz) (cells_D_rakeAll cI cL cZ a_this a_stones a_kinds a_weights a_chances c_width c_rain c_ear c_walkers c_seed x)) 0 0 (va_A (cells_D_rakeAll cI cL cZ a_this a_stones a_kinds a_weights a_chances c_width c_rain c_ear c_walkers c_seed c_stones) sz) :=
  kmet (by decide) (Nat.le_of_ble_eq_true rfl) rfl (fun p e s m below meth c C hE => s_D_rakeAll C h)
abbrev cells_T_isSideTold (cI : ClassId) (cL : ClassId) (cZ : ClassId) (a_this : Nat) (a_letters : Nat) (a_p1 : Nat) (a_p1_stones : Nat) (a_p1_kinds : Nat) (a_p1_weights : Nat) (a_p1_chances : Nat) (c_size : Int32) (c_token : Int32) (c_place : Int32) (c_end : Int32) (c_letters : (Nat → Int32)) (c_p1_width : Int32) (c_p1_rain : Int32) (c_p1_ear : Int32) (c_p1_walkers : Int32) (c_p1_seed : Int32) (c_p1_stones : (Nat → Int32)) : va_W := [(a_this, .inr (3, [.ref a_letters, .int c_size, .int c_token, .int c_place, .int c_end])), (a_letters, .inl (cI, 250, .inl c_letters)), (a_p1, .inr (0, [.ref a_p1_stones, .ref a_p1_kinds, .ref a_p1_weights, .ref a_p1_chances, .int c_p1_width, .int c_p1_rain, .int c_p1_ear, .int c_p1_walkers, .int c_p1_seed])), (a_p1_stones, .inl (cI, 36, .inl c_p1_stones))]
abbrev rm_T_isSideTold : Room := { frames := 3, cells := 0, slots := 0, locals := 65 }
set_option maxRecDepth 100000 in
set_option maxHeartbeats 4000000 in
theorem s_T_isSideTold (C : kC p l e rm_T_isSideTold s m args below meth c D (tyG cI cL cZ) A 3 cX3_isSideTold yX3_isSideTold.cls (Cond.code yX3_isSideTold cX3_isSideTold 3 (some .boolean) :: WS) (some .boolean)) {X : kX} (hE : kEs X A s) {a_this : Nat} {a_letters : Nat} {a_p1 : Nat} {a_p1_stones : Nat} {a_p1_kinds : Nat} {a_p1_weights : Nat} {a_p1_chances : Nat} {c_size : Int32} {c_token : Int32} {c_place : Int32} {c_end : Int32} {c_letters : (Nat → Int32)} {c_p1_width : Int32} {c_p1_rain : Int32} {c_p1_ear : Int32} {c_p1_walkers : Int32} {c_p1_seed : Int32} {c_p1_stones : (Nat → Int32)} {x : (Int32 × Int32 × Int32 × Int32 × Int32 × (Nat → Int32))} (h : f_T_isSideTold c_size c_token c_place c_end c_letters c_p1_width c_p1_stones = some x) :
    kW p l e rm_T_isSideTold s m args below meth c D A 3 (cells_T_isSideTold cI cL cZ a_this a_letters a_p1 a_p1_stones a_p1_kinds a_p1_weights a_p1_chances c_size c_token c_place c_end c_letters c_p1_width c_p1_rain c_p1_ear c_p1_walkers c_p1_seed c_p1_stones) [(0, .ref a_this), (1, .ref a_p1)] (MQ below (kQi D A (cells_T_isSideTold cI cL cZ a_this a_letters a_p1 a_p1_stones a_p1_kinds a_p1_weights a_p1_chances c_size x.2.1 x.2.2.1 x.2.2.2.1 c_letters x.2.2.2.2.1 c_p1_rain c_p1_ear c_p1_walkers c_p1_seed x.2.2.2.2.2) x.1) args s 0 0 A) 0 [] := by
  unfold f_T_isSideTold at h
  refine k_aload_n C dX3_isSideTold_0 0 rfl rfl ?_
  refine k_iconst C (v := (2 : Int32)) dX3_isSideTold_1 (by decide) ?_
  refine k_bipush C (v := (6 : Int32)) dX3_isSideTold_2 (by decide) ?_
  obtain ⟨x1, hx1, h⟩ := bindE h
  refine kcallU_i C (wc := (cells_T_number cI cL cZ a_this a_letters c_size c_token c_place c_end c_letters)) (w1 := (cells_T_number cI cL cZ a_this a_letters c_size x1.2.1 x1.2.2.1 x1.2.2.2 c_letters)) (ws' := (cells_T_isSideTold cI cL cZ a_this a_letters a_p1 a_p1_stones a_p1_kinds a_p1_weights a_p1_chances c_size x1.2.1 x1.2.2.1 x1.2.2.2 c_letters c_p1_width c_p1_rain c_p1_ear c_p1_walkers c_p1_seed c_p1_stones)) (r := x1.1) [0, 1] (fun H locs ls hP hD hS hF hz => krunV C (q0 := 0) (ci := 3) (c_T_number l D cI cL cZ X H.size a_this a_letters (2 : Int32) (6 : Int32) c_size c_token c_place c_end c_letters x1 hx1) (cwV 2 C.2.2.2.2.1 (gV wq_190 wq_191 wq_192 wq_161 wq_189) rfl rfl rfl (by decide +kernel) ⟨(Nat.le_of_ble_eq_true rfl), (Nat.le_of_ble_eq_true rfl)⟩) rfl rfl (kEs_call hE hS hF) rfl rfl (Nat.le_of_ble_eq_true rfl) dX3_isSideTold_4 hP hD hz) rfl (by decide) rfl rfl ?_
  refine k_istore_n C (lv' := [(2, .int x1.1), (0, .ref a_this), (1, .ref a_p1)]) dX3_isSideTold_7 rfl (by decide) rfl ?_
  refine k_iload_n C dX3_isSideTold_8 0 rfl rfl ?_
  refine k_iconst C (v := (-1 : Int32)) dX3_isSideTold_9 (by decide) ?_
  refine k_icmp_ne C (tgt := 15) dX3_isSideTold_10 (by decide) (fun c_10 => ?_) (fun c_10 => ?_)
  · have h := ifF c_10 h
    refine k_aload_n C dX3_isSideTold_15 2 rfl rfl ?_
    refine k_iload_n C dX3_isSideTold_16 0 rfl rfl ?_
    obtain ⟨x2, hx2, h⟩ := bindE h
    refine kcallU_v C (wc := (cells_D_layOut cI cL cZ a_p1 a_p1_stones a_p1_kinds a_p1_weights a_p1_chances c_p1_width c_p1_rain c_p1_ear c_p1_walkers c_p1_seed c_p1_stones)) (w1 := (cells_D_layOut cI cL cZ a_p1 a_p1_stones a_p1_kinds a_p1_weights a_p1_chances x2.1 c_p1_rain c_p1_ear c_p1_walkers c_p1_seed x2.2)) (ws' := (cells_T_isSideTold cI cL cZ a_this a_letters a_p1 a_p1_stones a_p1_kinds a_p1_weights a_p1_chances c_size x1.2.1 x1.2.2.1 x1.2.2.2 c_letters x2.1 c_p1_rain c_p1_ear c_p1_walkers c_p1_seed x2.2)) [2, 3] (fun H locs ls hP hD hS hF hz => krunV C (q0 := 0) (ci := 0) (c_D_layOut l D cI cL cZ H.size a_p1 a_p1_stones a_p1_kinds a_p1_weights a_p1_chances x1.1 c_p1_width c_p1_rain c_p1_ear c_p1_walkers c_p1_seed c_p1_stones x2 hx2) (cwV 1 C.2.2.2.2.1 (gV wq_199 wq_129 wq_130 wq_72 wq_127) rfl rfl rfl (by decide +kernel) ⟨(Nat.le_of_ble_eq_true rfl), (Nat.le_of_ble_eq_true rfl)⟩) rfl rfl kEnv_T rfl rfl (Nat.le_of_ble_eq_true rfl) dX3_isSideTold_17 hP hD hz) rfl (by decide) rfl rfl ?_
    refine k_iconst C (v := (1 : Int32)) dX3_isSideTold_20 (by decide) ?_
    obtain rfl := Option.some.inj h
    exact kret_z C rfl nz1 dX3_isSideTold_21
  · have h := ifT c_10 h
    refine k_iconst C (v := (0 : Int32)) dX3_isSideTold_13 (by decide) ?_
    obtain rfl := Option.some.inj h
    exact kret_z C rfl nz0 dX3_isSideTold_14
theorem c_T_isSideTold (l : Launch) (D : va_G) (cI : ClassId) (cL : ClassId) (cZ : ClassId) (X : kX) (sz : Nat) (a_this : Nat) (a_letters : Nat) (a_p1 : Nat) (a_p1_stones : Nat) (a_p1_kinds : Nat) (a_p1_weights : Nat) (a_p1_chances : Nat) (c_size : Int32) (c_token : Int32) (c_place : Int32) (c_end : Int32) (c_letters : (Nat → Int32)) (c_p1_width : Int32) (c_p1_rain : Int32) (c_p1_ear : Int32) (c_p1_walkers : Int32) (c_p1_seed : Int32) (c_p1_stones : (Nat → Int32)) (x : (Int32 × Int32 × Int32 × Int32 × Int32 × (Nat → Int32))) (h : f_T_isSideTold c_size c_token c_place c_end c_letters c_p1_width c_p1_stones = some x) :
    Met l yX3_isSideTold (Cond.code yX3_isSideTold cX3_isSideTold 3 (some .boolean) :: WS) rm_T_isSideTold (kP D (tyG cI cL cZ) (kEs X (va_A (cells_T_isSideTold cI cL cZ a_this a_letters a_p1 a_p1_stones a_p1_kinds a_p1_weights a_p1_chances c_size c_token c_place c_end c_letters c_p1_width c_p1_rain c_p1_ear c_p1_walkers c_p1_seed c_p1_stones) sz)) [.ref a_this, .ref a_p1] sz (cells_T_isSideTold cI cL cZ a_this a_letters a_p1 a_p1_stones a_p1_kinds a_p1_weights a_p1_chances c_size c_token c_place c_end c_letters c_p1_width c_p1_rain c_p1_ear c_p1_walkers c_p1_seed c_p1_stones)) (kQi D (va_A (cells_T_isSideTold cI cL cZ a_this a_letters a_p1 a_p1_stones a_p1_kinds a_p1_weights a_p1_chances c_size c_token c_place c_end c_letters c_p1_width c_p1_rain c_p1_ear c_p1_walkers c_p1_seed c_p1_stones) sz) (cells_T_isSideTold cI cL cZ a_this a_letters a_p1 a_p1_stones a_p1_kinds a_p1_weights a_p1_chances c_size x.2.1 x.2.2.1 x.2.2.2.1 c_letters x.2.2.2.2.1 c_p1_rain c_p1_ear c_p1_walkers c_p1_seed x.2.2.2.2.2) x.1) 0 0 (va_A (cells_T_isSideTold cI cL cZ a_this a_letters a_p1 a_p1_stones a_p1_kinds a_p1_weights a_p1_chances c_size c_token c_place c_end c_letters c_p1_width c_p1_rain c_p1_ear c_p1_walkers c_p1_seed c_p1_stones) sz) :=
  kmet (by decide) (Nat.le_of_ble_eq_true rfl) rfl (fun p e s m below meth c C hE => s_T_isSideTold C hE h)
abbrev cells_T_isGravelTold (cI : ClassId) (cL : ClassId) (cZ : ClassId) (a_this : Nat) (a_letters : Nat) (a_p1 : Nat) (a_p1_stones : Nat) (a_p1_kinds : Nat) (a_p1_weights : Nat) (a_p1_chances : Nat) (c_size : Int32) (c_token : Int32) (c_place : Int32) (c_end : Int32) (c_letters : (Nat → Int32)) (c_p1_width : Int32) (c_p1_rain : Int32) (c_p1_ear : Int32) (c_p1_walkers : Int32) (c_p1_seed : Int32) (c_p1_stones : (Nat → Int32)) : va_W := [(a_this, .inr (3, [.ref a_letters, .int c_size, .int c_token, .int c_place, .int c_end])), (a_letters, .inl (cI, 250, .inl c_letters)), (a_p1, .inr (0, [.ref a_p1_stones, .ref a_p1_kinds, .ref a_p1_weights, .ref a_p1_chances, .int c_p1_width, .int c_p1_rain, .int c_p1_ear, .int c_p1_walkers, .int c_p1_seed])), (a_p1_stones, .inl (cI, 36, .inl c_p1_stones))]
abbrev rm_T_isGravelTold : Room := { frames := 3, cells := 0, slots := 0, locals := 65 }
set_option maxRecDepth 100000 in
set_option maxHeartbeats 4000000 in
theorem s_T_isGravelTold (C : kC p l e rm_T_isGravelTold s m args below meth c D (tyG cI cL cZ) A 4 cX3_isGravelTold yX3_isGravelTold.cls (Cond.code yX3_isGravelTold cX3_isGravelTold 4 (some .boolean) :: WS) (some .boolean)) {X : kX} (hE : kEs X A s) {a_this : Nat} {a_letters : Nat} {a_p1 : Nat} {a_p1_stones : Nat} {a_p1_kinds : Nat} {a_p1_weights : Nat} {a_p1_chances : Nat} {c_size : Int32} {c_token : Int32} {c_place : Int32} {c_end : Int32} {c_letters : (Nat → Int32)} {c_p1_width : Int32} {c_p1_rain : Int32} {c_p1_ear : Int32} {c_p1_walkers : Int32} {c_p1_seed : Int32} {c_p1_stones : (Nat → Int32)} {x : (Int32 × Int32 × Int32 × Int32 × (Nat → Int32))} (h : f_T_isGravelTold c_size c_token c_place c_end c_letters c_p1_width c_p1_stones = some x) :
    kW p l e rm_T_isGravelTold s m args below meth c D A 4 (cells_T_isGravelTold cI cL cZ a_this a_letters a_p1 a_p1_stones a_p1_kinds a_p1_weights a_p1_chances c_size c_token c_place c_end c_letters c_p1_width c_p1_rain c_p1_ear c_p1_walkers c_p1_seed c_p1_stones) [(0, .ref a_this), (1, .ref a_p1)] (MQ below (kQi D A (cells_T_isGravelTold cI cL cZ a_this a_letters a_p1 a_p1_stones a_p1_kinds a_p1_weights a_p1_chances c_size x.2.1 x.2.2.1 x.2.2.2.1 c_letters c_p1_width c_p1_rain c_p1_ear c_p1_walkers c_p1_seed x.2.2.2.2) x.1) args s 0 0 A) 0 [] := by
  unfold f_T_isGravelTold at h
  refine k_aload_n C dX3_isGravelTold_0 0 rfl rfl ?_
  refine k_iconst C (v := (0 : Int32)) dX3_isGravelTold_1 (by decide) ?_
  refine k_aload_n C dX3_isGravelTold_2 1 rfl rfl ?_
  obtain ⟨x1, hx1, h⟩ := bindE h
  refine kcallR_i C (wc := (cells_D_cells cI cL cZ a_p1 a_p1_stones a_p1_kinds a_p1_weights a_p1_chances c_p1_width c_p1_rain c_p1_ear c_p1_walkers c_p1_seed)) (r := x1) [2] (fun H locs ls hP hD hS hF hz => krunV C (q0 := 0) (ci := 0) (c_D_cells l D cI cL cZ H.size a_p1 a_p1_stones a_p1_kinds a_p1_weights a_p1_chances c_p1_width c_p1_rain c_p1_ear c_p1_walkers c_p1_seed x1 hx1) (cwV 0 C.2.2.2.2.1 (gV wq_200 wq_133 wq_134 wq_72 wq_131) rfl rfl rfl (by decide +kernel) ⟨(Nat.le_of_ble_eq_true rfl), (Nat.le_of_ble_eq_true rfl)⟩) rfl rfl kEnv_T rfl rfl (Nat.le_of_ble_eq_true rfl) dX3_isGravelTold_3 hP hD hz) rfl (by decide) ?_
  refine k_iconst C (v := (1 : Int32)) dX3_isGravelTold_6 (by decide) ?_
  refine k_isub C dX3_isGravelTold_7 ?_
  obtain ⟨x2, hx2, h⟩ := bindE h
  refine kcallU_i C (wc := (cells_T_number cI cL cZ a_this a_letters c_size c_token c_place c_end c_letters)) (w1 := (cells_T_number cI cL cZ a_this a_letters c_size x2.2.1 x2.2.2.1 x2.2.2.2 c_letters)) (ws' := (cells_T_isGravelTold cI cL cZ a_this a_letters a_p1 a_p1_stones a_p1_kinds a_p1_weights a_p1_chances c_size x2.2.1 x2.2.2.1 x2.2.2.2 c_letters c_p1_width c_p1_rain c_p1_ear c_p1_walkers c_p1_seed c_p1_stones)) (r := x2.1) [0, 1] (fun H locs ls hP hD hS hF hz => krunV C (q0 := 0) (ci := 3) (c_T_number l D cI cL cZ X H.size a_this a_letters (0 : Int32) (x1 - (1 : Int32)) c_size c_token c_place c_end c_letters x2 hx2) (cwV 2 C.2.2.2.2.1 (gV wq_190 wq_191 wq_192 wq_161 wq_189) rfl rfl rfl (by decide +kernel) ⟨(Nat.le_of_ble_eq_true rfl), (Nat.le_of_ble_eq_true rfl)⟩) rfl rfl (kEs_call hE hS hF) rfl rfl (Nat.le_of_ble_eq_true rfl) dX3_isGravelTold_8 hP hD hz) rfl (by decide) rfl rfl ?_
  refine k_istore_n C (lv' := [(2, .int x2.1), (0, .ref a_this), (1, .ref a_p1)]) dX3_isGravelTold_11 rfl (by decide) rfl ?_
  refine k_iload_n C dX3_isGravelTold_12 0 rfl rfl ?_
  refine k_iconst C (v := (-1 : Int32)) dX3_isGravelTold_13 (by decide) ?_
  refine k_icmp_ne C (tgt := 19) dX3_isGravelTold_14 (by decide) (fun c_14 => ?_) (fun c_14 => ?_)
  · have h := ifF c_14 h
    refine k_aload_n C dX3_isGravelTold_19 1 rfl rfl ?_
    refine k_iconst C (v := (0 : Int32)) dX3_isGravelTold_20 (by decide) ?_
    refine k_bipush C (v := (9 : Int32)) dX3_isGravelTold_21 (by decide) ?_
    obtain ⟨x3, hx3, h⟩ := bindE h
    refine kcallU_i C (wc := (cells_T_number cI cL cZ a_this a_letters c_size x2.2.1 x2.2.2.1 x2.2.2.2 c_letters)) (w1 := (cells_T_number cI cL cZ a_this a_letters c_size x3.2.1 x3.2.2.1 x3.2.2.2 c_letters)) (ws' := (cells_T_isGravelTold cI cL cZ a_this a_letters a_p1 a_p1_stones a_p1_kinds a_p1_weights a_p1_chances c_size x3.2.1 x3.2.2.1 x3.2.2.2 c_letters c_p1_width c_p1_rain c_p1_ear c_p1_walkers c_p1_seed c_p1_stones)) (r := x3.1) [0, 1] (fun H locs ls hP hD hS hF hz => krunV C (q0 := 0) (ci := 3) (c_T_number l D cI cL cZ X H.size a_this a_letters (0 : Int32) (9 : Int32) c_size x2.2.1 x2.2.2.1 x2.2.2.2 c_letters x3 hx3) (cwV 2 C.2.2.2.2.1 (gV wq_190 wq_191 wq_192 wq_161 wq_189) rfl rfl rfl (by decide +kernel) ⟨(Nat.le_of_ble_eq_true rfl), (Nat.le_of_ble_eq_true rfl)⟩) rfl rfl (kEs_call hE hS hF) rfl rfl (Nat.le_of_ble_eq_true rfl) dX3_isGravelTold_23 hP hD hz) rfl (by decide) rfl rfl ?_
    refine k_istore_n C (lv' := [(3, .int x3.1), (2, .int x2.1), (0, .ref a_this), (1, .ref a_p1)]) dX3_isGravelTold_26 rfl (by decide) rfl ?_
    refine k_iload_n C dX3_isGravelTold_27 0 rfl rfl ?_
    refine k_iconst C (v := (-1 : Int32)) dX3_isGravelTold_28 (by decide) ?_
    refine k_icmp_ne C (tgt := 34) dX3_isGravelTold_29 (by decide) (fun c_29 => ?_) (fun c_29 => ?_)
    · have h := ifF c_29 h
      refine k_aload_n C dX3_isGravelTold_34 3 rfl rfl ?_
      refine k_iload_n C dX3_isGravelTold_35 1 rfl rfl ?_
      refine k_iload_n C dX3_isGravelTold_36 0 rfl rfl ?_
      obtain ⟨x4, hx4, h⟩ := bindE h
      refine kcallU_v C (wc := (cells_D_pour cI cL cZ a_p1 a_p1_stones a_p1_kinds a_p1_weights a_p1_chances c_p1_width c_p1_rain c_p1_ear c_p1_walkers c_p1_seed c_p1_stones)) (w1 := (cells_D_pour cI cL cZ a_p1 a_p1_stones a_p1_kinds a_p1_weights a_p1_chances c_p1_width c_p1_rain c_p1_ear c_p1_walkers c_p1_seed x4)) (ws' := (cells_T_isGravelTold cI cL cZ a_this a_letters a_p1 a_p1_stones a_p1_kinds a_p1_weights a_p1_chances c_size x3.2.1 x3.2.2.1 x3.2.2.2 c_letters c_p1_width c_p1_rain c_p1_ear c_p1_walkers c_p1_seed x4)) [2, 3] (fun H locs ls hP hD hS hF hz => krunV C (q0 := 0) (ci := 0) (c_D_pour l D cI cL cZ X H.size a_p1 a_p1_stones a_p1_kinds a_p1_weights a_p1_chances x2.1 x3.1 c_p1_width c_p1_rain c_p1_ear c_p1_walkers c_p1_seed c_p1_stones x4 hx4) (cwV 2 C.2.2.2.2.1 (gV wq_201 wq_142 wq_143 wq_72 wq_140) rfl rfl rfl (by decide +kernel) ⟨(Nat.le_of_ble_eq_true rfl), (Nat.le_of_ble_eq_true rfl)⟩) rfl rfl (kEs_call hE hS hF) rfl rfl (Nat.le_of_ble_eq_true rfl) dX3_isGravelTold_37 hP hD hz) rfl (by decide) rfl rfl ?_
      refine k_iconst C (v := (1 : Int32)) dX3_isGravelTold_40 (by decide) ?_
      obtain rfl := Option.some.inj h
      exact kret_z C rfl nz1 dX3_isGravelTold_41
    · have h := ifT c_29 h
      refine k_iconst C (v := (0 : Int32)) dX3_isGravelTold_32 (by decide) ?_
      obtain rfl := Option.some.inj h
      exact kret_z C rfl nz0 dX3_isGravelTold_33
  · have h := ifT c_14 h
    refine k_iconst C (v := (0 : Int32)) dX3_isGravelTold_17 (by decide) ?_
    obtain rfl := Option.some.inj h
    exact kret_z C rfl nz0 dX3_isGravelTold_18
theorem c_T_isGravelTold (l : Launch) (D : va_G) (cI : ClassId) (cL : ClassId) (cZ : ClassId) (X : kX) (sz : Nat) (a_this : Nat) (a_letters : Nat) (a_p1 : Nat) (a_p1_stones : Nat) (a_p1_kinds : Nat) (a_p1_weights : Nat) (a_p1_chances : Nat) (c_size : Int32) (c_token : Int32) (c_place : Int32) (c_end : Int32) (c_letters : (Nat → Int32)) (c_p1_width : Int32) (c_p1_rain : Int32) (c_p1_ear : Int32) (c_p1_walkers : Int32) (c_p1_seed : Int32) (c_p1_stones : (Nat → Int32)) (x : (Int32 × Int32 × Int32 × Int32 × (Nat → Int32))) (h : f_T_isGravelTold c_size c_token c_place c_end c_letters c_p1_width c_p1_stones = some x) :
    Met l yX3_isGravelTold (Cond.code yX3_isGravelTold cX3_isGravelTold 4 (some .boolean) :: WS) rm_T_isGravelTold (kP D (tyG cI cL cZ) (kEs X (va_A (cells_T_isGravelTold cI cL cZ a_this a_letters a_p1 a_p1_stones a_p1_kinds a_p1_weights a_p1_chances c_size c_token c_place c_end c_letters c_p1_width c_p1_rain c_p1_ear c_p1_walkers c_p1_seed c_p1_stones) sz)) [.ref a_this, .ref a_p1] sz (cells_T_isGravelTold cI cL cZ a_this a_letters a_p1 a_p1_stones a_p1_kinds a_p1_weights a_p1_chances c_size c_token c_place c_end c_letters c_p1_width c_p1_rain c_p1_ear c_p1_walkers c_p1_seed c_p1_stones)) (kQi D (va_A (cells_T_isGravelTold cI cL cZ a_this a_letters a_p1 a_p1_stones a_p1_kinds a_p1_weights a_p1_chances c_size c_token c_place c_end c_letters c_p1_width c_p1_rain c_p1_ear c_p1_walkers c_p1_seed c_p1_stones) sz) (cells_T_isGravelTold cI cL cZ a_this a_letters a_p1 a_p1_stones a_p1_kinds a_p1_weights a_p1_chances c_size x.2.1 x.2.2.1 x.2.2.2.1 c_letters c_p1_width c_p1_rain c_p1_ear c_p1_walkers c_p1_seed x.2.2.2.2) x.1) 0 0 (va_A (cells_T_isGravelTold cI cL cZ a_this a_letters a_p1 a_p1_stones a_p1_kinds a_p1_weights a_p1_chances c_size c_token c_place c_end c_letters c_p1_width c_p1_rain c_p1_ear c_p1_walkers c_p1_seed c_p1_stones) sz) :=
  kmet (by decide) (Nat.le_of_ble_eq_true rfl) rfl (fun p e s m below meth c C hE => s_T_isGravelTold C hE h)
abbrev cells_T_isPlankTold (cI : ClassId) (cL : ClassId) (cZ : ClassId) (a_this : Nat) (a_letters : Nat) (a_p1 : Nat) (a_p1_stones : Nat) (a_p1_kinds : Nat) (a_p1_weights : Nat) (a_p1_chances : Nat) (c_size : Int32) (c_token : Int32) (c_place : Int32) (c_end : Int32) (c_letters : (Nat → Int32)) (c_p1_width : Int32) (c_p1_rain : Int32) (c_p1_ear : Int32) (c_p1_walkers : Int32) (c_p1_seed : Int32) (c_p1_stones : (Nat → Int32)) : va_W := [(a_this, .inr (3, [.ref a_letters, .int c_size, .int c_token, .int c_place, .int c_end])), (a_letters, .inl (cI, 250, .inl c_letters)), (a_p1, .inr (0, [.ref a_p1_stones, .ref a_p1_kinds, .ref a_p1_weights, .ref a_p1_chances, .int c_p1_width, .int c_p1_rain, .int c_p1_ear, .int c_p1_walkers, .int c_p1_seed])), (a_p1_stones, .inl (cI, 36, .inl c_p1_stones))]
abbrev rm_T_isPlankTold : Room := { frames := 3, cells := 0, slots := 0, locals := 65 }
set_option maxRecDepth 100000 in
set_option maxHeartbeats 4000000 in
theorem s_T_isPlankTold (C : kC p l e rm_T_isPlankTold s m args below meth c D (tyG cI cL cZ) A 3 cX3_isPlankTold yX3_isPlankTold.cls (Cond.code yX3_isPlankTold cX3_isPlankTold 3 (some .boolean) :: WS) (some .boolean)) {X : kX} (hE : kEs X A s) {a_this : Nat} {a_letters : Nat} {a_p1 : Nat} {a_p1_stones : Nat} {a_p1_kinds : Nat} {a_p1_weights : Nat} {a_p1_chances : Nat} {c_size : Int32} {c_token : Int32} {c_place : Int32} {c_end : Int32} {c_letters : (Nat → Int32)} {c_p1_width : Int32} {c_p1_rain : Int32} {c_p1_ear : Int32} {c_p1_walkers : Int32} {c_p1_seed : Int32} {c_p1_stones : (Nat → Int32)} {x : (Int32 × Int32 × Int32 × Int32 × (Nat → Int32))} (h : f_T_isPlankTold c_size c_token c_place c_end c_letters c_p1_width c_p1_stones = some x) :
    kW p l e rm_T_isPlankTold s m args below meth c D A 3 (cells_T_isPlankTold cI cL cZ a_this a_letters a_p1 a_p1_stones a_p1_kinds a_p1_weights a_p1_chances c_size c_token c_place c_end c_letters c_p1_width c_p1_rain c_p1_ear c_p1_walkers c_p1_seed c_p1_stones) [(0, .ref a_this), (1, .ref a_p1)] (MQ below (kQi D A (cells_T_isPlankTold cI cL cZ a_this a_letters a_p1 a_p1_stones a_p1_kinds a_p1_weights a_p1_chances c_size x.2.1 x.2.2.1 x.2.2.2.1 c_letters c_p1_width c_p1_rain c_p1_ear c_p1_walkers c_p1_seed x.2.2.2.2) x.1) args s 0 0 A) 0 [] := by
  unfold f_T_isPlankTold at h
  refine k_aload_n C dX3_isPlankTold_0 0 rfl rfl ?_
  refine k_iconst C (v := (0 : Int32)) dX3_isPlankTold_1 (by decide) ?_
  refine k_aload_n C dX3_isPlankTold_2 1 rfl rfl ?_
  obtain ⟨x1, hx1, h⟩ := bindE h
  refine kcallR_i C (wc := (cells_D_cells cI cL cZ a_p1 a_p1_stones a_p1_kinds a_p1_weights a_p1_chances c_p1_width c_p1_rain c_p1_ear c_p1_walkers c_p1_seed)) (r := x1) [2] (fun H locs ls hP hD hS hF hz => krunV C (q0 := 0) (ci := 0) (c_D_cells l D cI cL cZ H.size a_p1 a_p1_stones a_p1_kinds a_p1_weights a_p1_chances c_p1_width c_p1_rain c_p1_ear c_p1_walkers c_p1_seed x1 hx1) (cwV 0 C.2.2.2.2.1 (gV wq_200 wq_133 wq_134 wq_72 wq_131) rfl rfl rfl (by decide +kernel) ⟨(Nat.le_of_ble_eq_true rfl), (Nat.le_of_ble_eq_true rfl)⟩) rfl rfl kEnv_T rfl rfl (Nat.le_of_ble_eq_true rfl) dX3_isPlankTold_3 hP hD hz) rfl (by decide) ?_
  refine k_iconst C (v := (1 : Int32)) dX3_isPlankTold_6 (by decide) ?_
  refine k_isub C dX3_isPlankTold_7 ?_
  obtain ⟨x2, hx2, h⟩ := bindE h
  refine kcallU_i C (wc := (cells_T_number cI cL cZ a_this a_letters c_size c_token c_place c_end c_letters)) (w1 := (cells_T_number cI cL cZ a_this a_letters c_size x2.2.1 x2.2.2.1 x2.2.2.2 c_letters)) (ws' := (cells_T_isPlankTold cI cL cZ a_this a_letters a_p1 a_p1_stones a_p1_kinds a_p1_weights a_p1_chances c_size x2.2.1 x2.2.2.1 x2.2.2.2 c_letters c_p1_width c_p1_rain c_p1_ear c_p1_walkers c_p1_seed c_p1_stones)) (r := x2.1) [0, 1] (fun H locs ls hP hD hS hF hz => krunV C (q0 := 0) (ci := 3) (c_T_number l D cI cL cZ X H.size a_this a_letters (0 : Int32) (x1 - (1 : Int32)) c_size c_token c_place c_end c_letters x2 hx2) (cwV 2 C.2.2.2.2.1 (gV wq_190 wq_191 wq_192 wq_161 wq_189) rfl rfl rfl (by decide +kernel) ⟨(Nat.le_of_ble_eq_true rfl), (Nat.le_of_ble_eq_true rfl)⟩) rfl rfl (kEs_call hE hS hF) rfl rfl (Nat.le_of_ble_eq_true rfl) dX3_isPlankTold_8 hP hD hz) rfl (by decide) rfl rfl ?_
  refine k_istore_n C (lv' := [(2, .int x2.1), (0, .ref a_this), (1, .ref a_p1)]) dX3_isPlankTold_11 rfl (by decide) rfl ?_
  refine k_iload_n C dX3_isPlankTold_12 0 rfl rfl ?_
  refine k_iconst C (v := (-1 : Int32)) dX3_isPlankTold_13 (by decide) ?_
  refine k_icmp_ne C (tgt := 19) dX3_isPlankTold_14 (by decide) (fun c_14 => ?_) (fun c_14 => ?_)
  · have h := ifF c_14 h
    refine k_aload_n C dX3_isPlankTold_19 2 rfl rfl ?_
    refine k_iload_n C dX3_isPlankTold_20 0 rfl rfl ?_
    refine k_iconst C (v := (0 : Int32)) dX3_isPlankTold_21 (by decide) ?_
    obtain ⟨x3, hx3, h⟩ := bindE h
    refine kcallU_v C (wc := (cells_D_pour cI cL cZ a_p1 a_p1_stones a_p1_kinds a_p1_weights a_p1_chances c_p1_width c_p1_rain c_p1_ear c_p1_walkers c_p1_seed c_p1_stones)) (w1 := (cells_D_pour cI cL cZ a_p1 a_p1_stones a_p1_kinds a_p1_weights a_p1_chances c_p1_width c_p1_rain c_p1_ear c_p1_walkers c_p1_seed x3)) (ws' := (cells_T_isPlankTold cI cL cZ a_this a_letters a_p1 a_p1_stones a_p1_kinds a_p1_weights a_p1_chances c_size x2.2.1 x2.2.2.1 x2.2.2.2 c_letters c_p1_width c_p1_rain c_p1_ear c_p1_walkers c_p1_seed x3)) [2, 3] (fun H locs ls hP hD hS hF hz => krunV C (q0 := 0) (ci := 0) (c_D_pour l D cI cL cZ X H.size a_p1 a_p1_stones a_p1_kinds a_p1_weights a_p1_chances x2.1 (0 : Int32) c_p1_width c_p1_rain c_p1_ear c_p1_walkers c_p1_seed c_p1_stones x3 hx3) (cwV 2 C.2.2.2.2.1 (gV wq_201 wq_142 wq_143 wq_72 wq_140) rfl rfl rfl (by decide +kernel) ⟨(Nat.le_of_ble_eq_true rfl), (Nat.le_of_ble_eq_true rfl)⟩) rfl rfl (kEs_call hE hS hF) rfl rfl (Nat.le_of_ble_eq_true rfl) dX3_isPlankTold_22 hP hD hz) rfl (by decide) rfl rfl ?_
    refine k_iconst C (v := (1 : Int32)) dX3_isPlankTold_25 (by decide) ?_
    obtain rfl := Option.some.inj h
    exact kret_z C rfl nz1 dX3_isPlankTold_26
  · have h := ifT c_14 h
    refine k_iconst C (v := (0 : Int32)) dX3_isPlankTold_17 (by decide) ?_
    obtain rfl := Option.some.inj h
    exact kret_z C rfl nz0 dX3_isPlankTold_18
theorem c_T_isPlankTold (l : Launch) (D : va_G) (cI : ClassId) (cL : ClassId) (cZ : ClassId) (X : kX) (sz : Nat) (a_this : Nat) (a_letters : Nat) (a_p1 : Nat) (a_p1_stones : Nat) (a_p1_kinds : Nat) (a_p1_weights : Nat) (a_p1_chances : Nat) (c_size : Int32) (c_token : Int32) (c_place : Int32) (c_end : Int32) (c_letters : (Nat → Int32)) (c_p1_width : Int32) (c_p1_rain : Int32) (c_p1_ear : Int32) (c_p1_walkers : Int32) (c_p1_seed : Int32) (c_p1_stones : (Nat → Int32)) (x : (Int32 × Int32 × Int32 × Int32 × (Nat → Int32))) (h : f_T_isPlankTold c_size c_token c_place c_end c_letters c_p1_width c_p1_stones = some x) :
    Met l yX3_isPlankTold (Cond.code yX3_isPlankTold cX3_isPlankTold 3 (some .boolean) :: WS) rm_T_isPlankTold (kP D (tyG cI cL cZ) (kEs X (va_A (cells_T_isPlankTold cI cL cZ a_this a_letters a_p1 a_p1_stones a_p1_kinds a_p1_weights a_p1_chances c_size c_token c_place c_end c_letters c_p1_width c_p1_rain c_p1_ear c_p1_walkers c_p1_seed c_p1_stones) sz)) [.ref a_this, .ref a_p1] sz (cells_T_isPlankTold cI cL cZ a_this a_letters a_p1 a_p1_stones a_p1_kinds a_p1_weights a_p1_chances c_size c_token c_place c_end c_letters c_p1_width c_p1_rain c_p1_ear c_p1_walkers c_p1_seed c_p1_stones)) (kQi D (va_A (cells_T_isPlankTold cI cL cZ a_this a_letters a_p1 a_p1_stones a_p1_kinds a_p1_weights a_p1_chances c_size c_token c_place c_end c_letters c_p1_width c_p1_rain c_p1_ear c_p1_walkers c_p1_seed c_p1_stones) sz) (cells_T_isPlankTold cI cL cZ a_this a_letters a_p1 a_p1_stones a_p1_kinds a_p1_weights a_p1_chances c_size x.2.1 x.2.2.1 x.2.2.2.1 c_letters c_p1_width c_p1_rain c_p1_ear c_p1_walkers c_p1_seed x.2.2.2.2) x.1) 0 0 (va_A (cells_T_isPlankTold cI cL cZ a_this a_letters a_p1 a_p1_stones a_p1_kinds a_p1_weights a_p1_chances c_size c_token c_place c_end c_letters c_p1_width c_p1_rain c_p1_ear c_p1_walkers c_p1_seed c_p1_stones) sz) :=
  kmet (by decide) (Nat.le_of_ble_eq_true rfl) rfl (fun p e s m below meth c C hE => s_T_isPlankTold C hE h)
abbrev cells_T_isRainTold (cI : ClassId) (cL : ClassId) (cZ : ClassId) (a_this : Nat) (a_letters : Nat) (a_p1 : Nat) (a_p1_stones : Nat) (a_p1_kinds : Nat) (a_p1_weights : Nat) (a_p1_chances : Nat) (c_size : Int32) (c_token : Int32) (c_place : Int32) (c_end : Int32) (c_letters : (Nat → Int32)) (c_p1_width : Int32) (c_p1_rain : Int32) (c_p1_ear : Int32) (c_p1_walkers : Int32) (c_p1_seed : Int32) : va_W := [(a_this, .inr (3, [.ref a_letters, .int c_size, .int c_token, .int c_place, .int c_end])), (a_letters, .inl (cI, 250, .inl c_letters)), (a_p1, .inr (0, [.ref a_p1_stones, .ref a_p1_kinds, .ref a_p1_weights, .ref a_p1_chances, .int c_p1_width, .int c_p1_rain, .int c_p1_ear, .int c_p1_walkers, .int c_p1_seed]))]
abbrev rm_T_isRainTold : Room := { frames := 3, cells := 0, slots := 0, locals := 65 }
set_option maxRecDepth 100000 in
set_option maxHeartbeats 4000000 in
theorem s_T_isRainTold (C : kC p l e rm_T_isRainTold s m args below meth c D (tyG cI cL cZ) A 3 cX3_isRainTold yX3_isRainTold.cls (Cond.code yX3_isRainTold cX3_isRainTold 3 (some .boolean) :: WS) (some .boolean)) {X : kX} (hE : kEs X A s) {a_this : Nat} {a_letters : Nat} {a_p1 : Nat} {a_p1_stones : Nat} {a_p1_kinds : Nat} {a_p1_weights : Nat} {a_p1_chances : Nat} {c_size : Int32} {c_token : Int32} {c_place : Int32} {c_end : Int32} {c_letters : (Nat → Int32)} {c_p1_width : Int32} {c_p1_rain : Int32} {c_p1_ear : Int32} {c_p1_walkers : Int32} {c_p1_seed : Int32} {x : (Int32 × Int32 × Int32 × Int32 × Int32)} (h : f_T_isRainTold c_size c_token c_place c_end c_letters c_p1_rain = some x) :
    kW p l e rm_T_isRainTold s m args below meth c D A 3 (cells_T_isRainTold cI cL cZ a_this a_letters a_p1 a_p1_stones a_p1_kinds a_p1_weights a_p1_chances c_size c_token c_place c_end c_letters c_p1_width c_p1_rain c_p1_ear c_p1_walkers c_p1_seed) [(0, .ref a_this), (1, .ref a_p1)] (MQ below (kQi D A (cells_T_isRainTold cI cL cZ a_this a_letters a_p1 a_p1_stones a_p1_kinds a_p1_weights a_p1_chances c_size x.2.1 x.2.2.1 x.2.2.2.1 c_letters c_p1_width x.2.2.2.2 c_p1_ear c_p1_walkers c_p1_seed) x.1) args s 0 0 A) 0 [] := by
  unfold f_T_isRainTold at h
  refine k_aload_n C dX3_isRainTold_0 0 rfl rfl ?_
  refine k_iconst C (v := (0 : Int32)) dX3_isRainTold_1 (by decide) ?_
  refine k_bipush C (v := (9 : Int32)) dX3_isRainTold_2 (by decide) ?_
  obtain ⟨x1, hx1, h⟩ := bindE h
  refine kcallU_i C (wc := (cells_T_number cI cL cZ a_this a_letters c_size c_token c_place c_end c_letters)) (w1 := (cells_T_number cI cL cZ a_this a_letters c_size x1.2.1 x1.2.2.1 x1.2.2.2 c_letters)) (ws' := (cells_T_isRainTold cI cL cZ a_this a_letters a_p1 a_p1_stones a_p1_kinds a_p1_weights a_p1_chances c_size x1.2.1 x1.2.2.1 x1.2.2.2 c_letters c_p1_width c_p1_rain c_p1_ear c_p1_walkers c_p1_seed)) (r := x1.1) [0, 1] (fun H locs ls hP hD hS hF hz => krunV C (q0 := 0) (ci := 3) (c_T_number l D cI cL cZ X H.size a_this a_letters (0 : Int32) (9 : Int32) c_size c_token c_place c_end c_letters x1 hx1) (cwV 2 C.2.2.2.2.1 (gV wq_190 wq_191 wq_192 wq_161 wq_189) rfl rfl rfl (by decide +kernel) ⟨(Nat.le_of_ble_eq_true rfl), (Nat.le_of_ble_eq_true rfl)⟩) rfl rfl (kEs_call hE hS hF) rfl rfl (Nat.le_of_ble_eq_true rfl) dX3_isRainTold_4 hP hD hz) rfl (by decide) rfl rfl ?_
  refine k_istore_n C (lv' := [(2, .int x1.1), (0, .ref a_this), (1, .ref a_p1)]) dX3_isRainTold_7 rfl (by decide) rfl ?_
  refine k_iload_n C dX3_isRainTold_8 0 rfl rfl ?_
  refine k_iconst C (v := (-1 : Int32)) dX3_isRainTold_9 (by decide) ?_
  refine k_icmp_ne C (tgt := 15) dX3_isRainTold_10 (by decide) (fun c_10 => ?_) (fun c_10 => ?_)
  · have h := ifF c_10 h
    refine k_aload_n C dX3_isRainTold_15 2 rfl rfl ?_
    refine k_iload_n C dX3_isRainTold_16 0 rfl rfl ?_
    refine k_put C (C0 := RX0) (T := TX0) (N := 9) (ws' := (cells_T_isRainTold cI cL cZ a_this a_letters a_p1 a_p1_stones a_p1_kinds a_p1_weights a_p1_chances c_size x1.2.1 x1.2.2.1 x1.2.2.2 c_letters c_p1_width x1.1 c_p1_ear c_p1_walkers c_p1_seed)) (fun w h => List.mem_cons_of_mem _ (us_D w h)) tyX0 tyX0_ok nmX0 2 rfl rfl 5 (by decide) (List.mem_cons_of_mem _ wq_202) rfl rfl (tyX0_ok 5 (by decide)) rfl rfl (Nat.le_of_ble_eq_true rfl) rfl dX3_isRainTold_17 ?_
    refine k_iconst C (v := (1 : Int32)) dX3_isRainTold_20 (by decide) ?_
    obtain rfl := Option.some.inj h
    exact kret_z C rfl nz1 dX3_isRainTold_21
  · have h := ifT c_10 h
    refine k_iconst C (v := (0 : Int32)) dX3_isRainTold_13 (by decide) ?_
    obtain rfl := Option.some.inj h
    exact kret_z C rfl nz0 dX3_isRainTold_14
theorem c_T_isRainTold (l : Launch) (D : va_G) (cI : ClassId) (cL : ClassId) (cZ : ClassId) (X : kX) (sz : Nat) (a_this : Nat) (a_letters : Nat) (a_p1 : Nat) (a_p1_stones : Nat) (a_p1_kinds : Nat) (a_p1_weights : Nat) (a_p1_chances : Nat) (c_size : Int32) (c_token : Int32) (c_place : Int32) (c_end : Int32) (c_letters : (Nat → Int32)) (c_p1_width : Int32) (c_p1_rain : Int32) (c_p1_ear : Int32) (c_p1_walkers : Int32) (c_p1_seed : Int32) (x : (Int32 × Int32 × Int32 × Int32 × Int32)) (h : f_T_isRainTold c_size c_token c_place c_end c_letters c_p1_rain = some x) :
    Met l yX3_isRainTold (Cond.code yX3_isRainTold cX3_isRainTold 3 (some .boolean) :: WS) rm_T_isRainTold (kP D (tyG cI cL cZ) (kEs X (va_A (cells_T_isRainTold cI cL cZ a_this a_letters a_p1 a_p1_stones a_p1_kinds a_p1_weights a_p1_chances c_size c_token c_place c_end c_letters c_p1_width c_p1_rain c_p1_ear c_p1_walkers c_p1_seed) sz)) [.ref a_this, .ref a_p1] sz (cells_T_isRainTold cI cL cZ a_this a_letters a_p1 a_p1_stones a_p1_kinds a_p1_weights a_p1_chances c_size c_token c_place c_end c_letters c_p1_width c_p1_rain c_p1_ear c_p1_walkers c_p1_seed)) (kQi D (va_A (cells_T_isRainTold cI cL cZ a_this a_letters a_p1 a_p1_stones a_p1_kinds a_p1_weights a_p1_chances c_size c_token c_place c_end c_letters c_p1_width c_p1_rain c_p1_ear c_p1_walkers c_p1_seed) sz) (cells_T_isRainTold cI cL cZ a_this a_letters a_p1 a_p1_stones a_p1_kinds a_p1_weights a_p1_chances c_size x.2.1 x.2.2.1 x.2.2.2.1 c_letters c_p1_width x.2.2.2.2 c_p1_ear c_p1_walkers c_p1_seed) x.1) 0 0 (va_A (cells_T_isRainTold cI cL cZ a_this a_letters a_p1 a_p1_stones a_p1_kinds a_p1_weights a_p1_chances c_size c_token c_place c_end c_letters c_p1_width c_p1_rain c_p1_ear c_p1_walkers c_p1_seed) sz) :=
  kmet (by decide) (Nat.le_of_ble_eq_true rfl) rfl (fun p e s m below meth c C hE => s_T_isRainTold C hE h)
abbrev cells_T_isEarTold (cI : ClassId) (cL : ClassId) (cZ : ClassId) (a_this : Nat) (a_letters : Nat) (a_p1 : Nat) (a_p1_stones : Nat) (a_p1_kinds : Nat) (a_p1_weights : Nat) (a_p1_chances : Nat) (c_size : Int32) (c_token : Int32) (c_place : Int32) (c_end : Int32) (c_letters : (Nat → Int32)) (c_p1_width : Int32) (c_p1_rain : Int32) (c_p1_ear : Int32) (c_p1_walkers : Int32) (c_p1_seed : Int32) : va_W := [(a_this, .inr (3, [.ref a_letters, .int c_size, .int c_token, .int c_place, .int c_end])), (a_letters, .inl (cI, 250, .inl c_letters)), (a_p1, .inr (0, [.ref a_p1_stones, .ref a_p1_kinds, .ref a_p1_weights, .ref a_p1_chances, .int c_p1_width, .int c_p1_rain, .int c_p1_ear, .int c_p1_walkers, .int c_p1_seed]))]
abbrev rm_T_isEarTold : Room := { frames := 3, cells := 0, slots := 0, locals := 65 }
set_option maxRecDepth 100000 in
set_option maxHeartbeats 4000000 in
theorem s_T_isEarTold (C : kC p l e rm_T_isEarTold s m args below meth c D (tyG cI cL cZ) A 3 cX3_isEarTold yX3_isEarTold.cls (Cond.code yX3_isEarTold cX3_isEarTold 3 (some .boolean) :: WS) (some .boolean)) {X : kX} (hE : kEs X A s) {a_this : Nat} {a_letters : Nat} {a_p1 : Nat} {a_p1_stones : Nat} {a_p1_kinds : Nat} {a_p1_weights : Nat} {a_p1_chances : Nat} {c_size : Int32} {c_token : Int32} {c_place : Int32} {c_end : Int32} {c_letters : (Nat → Int32)} {c_p1_width : Int32} {c_p1_rain : Int32} {c_p1_ear : Int32} {c_p1_walkers : Int32} {c_p1_seed : Int32} {x : (Int32 × Int32 × Int32 × Int32 × Int32)} (h : f_T_isEarTold c_size c_token c_place c_end c_letters c_p1_ear = some x) :
    kW p l e rm_T_isEarTold s m args below meth c D A 3 (cells_T_isEarTold cI cL cZ a_this a_letters a_p1 a_p1_stones a_p1_kinds a_p1_weights a_p1_chances c_size c_token c_place c_end c_letters c_p1_width c_p1_rain c_p1_ear c_p1_walkers c_p1_seed) [(0, .ref a_this), (1, .ref a_p1)] (MQ below (kQi D A (cells_T_isEarTold cI cL cZ a_this a_letters a_p1 a_p1_stones a_p1_kinds a_p1_weights a_p1_chances c_size x.2.1 x.2.2.1 x.2.2.2.1 c_letters c_p1_width c_p1_rain x.2.2.2.2 c_p1_walkers c_p1_seed) x.1) args s 0 0 A) 0 [] := by
  unfold f_T_isEarTold at h
  refine k_aload_n C dX3_isEarTold_0 0 rfl rfl ?_
  refine k_iconst C (v := (1 : Int32)) dX3_isEarTold_1 (by decide) ?_
  refine k_bipush C (v := (99 : Int32)) dX3_isEarTold_2 (by decide) ?_
  obtain ⟨x1, hx1, h⟩ := bindE h
  refine kcallU_i C (wc := (cells_T_number cI cL cZ a_this a_letters c_size c_token c_place c_end c_letters)) (w1 := (cells_T_number cI cL cZ a_this a_letters c_size x1.2.1 x1.2.2.1 x1.2.2.2 c_letters)) (ws' := (cells_T_isEarTold cI cL cZ a_this a_letters a_p1 a_p1_stones a_p1_kinds a_p1_weights a_p1_chances c_size x1.2.1 x1.2.2.1 x1.2.2.2 c_letters c_p1_width c_p1_rain c_p1_ear c_p1_walkers c_p1_seed)) (r := x1.1) [0, 1] (fun H locs ls hP hD hS hF hz => krunV C (q0 := 0) (ci := 3) (c_T_number l D cI cL cZ X H.size a_this a_letters (1 : Int32) (99 : Int32) c_size c_token c_place c_end c_letters x1 hx1) (cwV 2 C.2.2.2.2.1 (gV wq_190 wq_191 wq_192 wq_161 wq_189) rfl rfl rfl (by decide +kernel) ⟨(Nat.le_of_ble_eq_true rfl), (Nat.le_of_ble_eq_true rfl)⟩) rfl rfl (kEs_call hE hS hF) rfl rfl (Nat.le_of_ble_eq_true rfl) dX3_isEarTold_4 hP hD hz) rfl (by decide) rfl rfl ?_
  refine k_istore_n C (lv' := [(2, .int x1.1), (0, .ref a_this), (1, .ref a_p1)]) dX3_isEarTold_7 rfl (by decide) rfl ?_
  refine k_iload_n C dX3_isEarTold_8 0 rfl rfl ?_
  refine k_iconst C (v := (-1 : Int32)) dX3_isEarTold_9 (by decide) ?_
  refine k_icmp_ne C (tgt := 15) dX3_isEarTold_10 (by decide) (fun c_10 => ?_) (fun c_10 => ?_)
  · have h := ifF c_10 h
    refine k_aload_n C dX3_isEarTold_15 2 rfl rfl ?_
    refine k_iload_n C dX3_isEarTold_16 0 rfl rfl ?_
    refine k_put C (C0 := RX0) (T := TX0) (N := 9) (ws' := (cells_T_isEarTold cI cL cZ a_this a_letters a_p1 a_p1_stones a_p1_kinds a_p1_weights a_p1_chances c_size x1.2.1 x1.2.2.1 x1.2.2.2 c_letters c_p1_width c_p1_rain x1.1 c_p1_walkers c_p1_seed)) (fun w h => List.mem_cons_of_mem _ (us_D w h)) tyX0 tyX0_ok nmX0 2 rfl rfl 6 (by decide) (List.mem_cons_of_mem _ wq_203) rfl rfl (tyX0_ok 6 (by decide)) rfl rfl (Nat.le_of_ble_eq_true rfl) rfl dX3_isEarTold_17 ?_
    refine k_iconst C (v := (1 : Int32)) dX3_isEarTold_20 (by decide) ?_
    obtain rfl := Option.some.inj h
    exact kret_z C rfl nz1 dX3_isEarTold_21
  · have h := ifT c_10 h
    refine k_iconst C (v := (0 : Int32)) dX3_isEarTold_13 (by decide) ?_
    obtain rfl := Option.some.inj h
    exact kret_z C rfl nz0 dX3_isEarTold_14
theorem c_T_isEarTold (l : Launch) (D : va_G) (cI : ClassId) (cL : ClassId) (cZ : ClassId) (X : kX) (sz : Nat) (a_this : Nat) (a_letters : Nat) (a_p1 : Nat) (a_p1_stones : Nat) (a_p1_kinds : Nat) (a_p1_weights : Nat) (a_p1_chances : Nat) (c_size : Int32) (c_token : Int32) (c_place : Int32) (c_end : Int32) (c_letters : (Nat → Int32)) (c_p1_width : Int32) (c_p1_rain : Int32) (c_p1_ear : Int32) (c_p1_walkers : Int32) (c_p1_seed : Int32) (x : (Int32 × Int32 × Int32 × Int32 × Int32)) (h : f_T_isEarTold c_size c_token c_place c_end c_letters c_p1_ear = some x) :
    Met l yX3_isEarTold (Cond.code yX3_isEarTold cX3_isEarTold 3 (some .boolean) :: WS) rm_T_isEarTold (kP D (tyG cI cL cZ) (kEs X (va_A (cells_T_isEarTold cI cL cZ a_this a_letters a_p1 a_p1_stones a_p1_kinds a_p1_weights a_p1_chances c_size c_token c_place c_end c_letters c_p1_width c_p1_rain c_p1_ear c_p1_walkers c_p1_seed) sz)) [.ref a_this, .ref a_p1] sz (cells_T_isEarTold cI cL cZ a_this a_letters a_p1 a_p1_stones a_p1_kinds a_p1_weights a_p1_chances c_size c_token c_place c_end c_letters c_p1_width c_p1_rain c_p1_ear c_p1_walkers c_p1_seed)) (kQi D (va_A (cells_T_isEarTold cI cL cZ a_this a_letters a_p1 a_p1_stones a_p1_kinds a_p1_weights a_p1_chances c_size c_token c_place c_end c_letters c_p1_width c_p1_rain c_p1_ear c_p1_walkers c_p1_seed) sz) (cells_T_isEarTold cI cL cZ a_this a_letters a_p1 a_p1_stones a_p1_kinds a_p1_weights a_p1_chances c_size x.2.1 x.2.2.1 x.2.2.2.1 c_letters c_p1_width c_p1_rain x.2.2.2.2 c_p1_walkers c_p1_seed) x.1) 0 0 (va_A (cells_T_isEarTold cI cL cZ a_this a_letters a_p1 a_p1_stones a_p1_kinds a_p1_weights a_p1_chances c_size c_token c_place c_end c_letters c_p1_width c_p1_rain c_p1_ear c_p1_walkers c_p1_seed) sz) :=
  kmet (by decide) (Nat.le_of_ble_eq_true rfl) rfl (fun p e s m below meth c C hE => s_T_isEarTold C hE h)
abbrev cells_T_isStatement (cI : ClassId) (cL : ClassId) (cZ : ClassId) (a_this : Nat) (a_letters : Nat) (a_p1 : Nat) (a_p1_stones : Nat) (a_p1_kinds : Nat) (a_p1_weights : Nat) (a_p1_chances : Nat) (c_size : Int32) (c_token : Int32) (c_place : Int32) (c_end : Int32) (c_letters : (Nat → Int32)) (c_p1_width : Int32) (c_p1_rain : Int32) (c_p1_ear : Int32) (c_p1_walkers : Int32) (c_p1_seed : Int32) (c_p1_stones : (Nat → Int32)) (c_p1_kinds : (Nat → Int32)) (c_p1_weights : (Nat → Int32)) (c_p1_chances : (Nat → Int32)) : va_W := [(a_this, .inr (3, [.ref a_letters, .int c_size, .int c_token, .int c_place, .int c_end])), (a_letters, .inl (cI, 250, .inl c_letters)), (a_p1, .inr (0, [.ref a_p1_stones, .ref a_p1_kinds, .ref a_p1_weights, .ref a_p1_chances, .int c_p1_width, .int c_p1_rain, .int c_p1_ear, .int c_p1_walkers, .int c_p1_seed])), (a_p1_stones, .inl (cI, 36, .inl c_p1_stones)), (a_p1_kinds, .inl (cI, 8, .inl c_p1_kinds)), (a_p1_weights, .inl (cI, 8, .inl c_p1_weights)), (a_p1_chances, .inl (cI, 8, .inl c_p1_chances))]
abbrev rm_T_isStatement : Room := { frames := 6, cells := 0, slots := 0, locals := 129 }
set_option maxRecDepth 100000 in
set_option maxHeartbeats 4000000 in
theorem s_T_isStatement (C : kC p l e rm_T_isStatement s m args below meth c D (tyG cI cL cZ) A 2 cX3_isStatement yX3_isStatement.cls (Cond.code yX3_isStatement cX3_isStatement 2 (some .boolean) :: WS) (some .boolean)) {X : kX} (hE : kEs X A s) {a_this : Nat} {a_letters : Nat} {a_p1 : Nat} {a_p1_stones : Nat} {a_p1_kinds : Nat} {a_p1_weights : Nat} {a_p1_chances : Nat} {c_size : Int32} {c_token : Int32} {c_place : Int32} {c_end : Int32} {c_letters : (Nat → Int32)} {c_p1_width : Int32} {c_p1_rain : Int32} {c_p1_ear : Int32} {c_p1_walkers : Int32} {c_p1_seed : Int32} {c_p1_stones : (Nat → Int32)} {c_p1_kinds : (Nat → Int32)} {c_p1_weights : (Nat → Int32)} {c_p1_chances : (Nat → Int32)} {x : (Int32 × Int32 × Int32 × Int32 × Int32 × Int32 × Int32 × Int32 × (Nat → Int32) × (Nat → Int32) × (Nat → Int32) × (Nat → Int32))} (h : f_T_isStatement c_size c_token c_place c_end c_letters c_p1_width c_p1_rain c_p1_ear c_p1_walkers c_p1_stones c_p1_kinds c_p1_weights c_p1_chances = some x) :
    kW p l e rm_T_isStatement s m args below meth c D A 2 (cells_T_isStatement cI cL cZ a_this a_letters a_p1 a_p1_stones a_p1_kinds a_p1_weights a_p1_chances c_size c_token c_place c_end c_letters c_p1_width c_p1_rain c_p1_ear c_p1_walkers c_p1_seed c_p1_stones c_p1_kinds c_p1_weights c_p1_chances) [(0, .ref a_this), (1, .ref a_p1)] (MQ below (kQi D A (cells_T_isStatement cI cL cZ a_this a_letters a_p1 a_p1_stones a_p1_kinds a_p1_weights a_p1_chances c_size x.2.1 x.2.2.1 x.2.2.2.1 c_letters x.2.2.2.2.1 x.2.2.2.2.2.1 x.2.2.2.2.2.2.1 x.2.2.2.2.2.2.2.1 c_p1_seed x.2.2.2.2.2.2.2.2.1 x.2.2.2.2.2.2.2.2.2.1 x.2.2.2.2.2.2.2.2.2.2.1 x.2.2.2.2.2.2.2.2.2.2.2) x.1) args s 0 0 A) 0 [] := by
  unfold f_T_isStatement at h
  refine k_aload_n C dX3_isStatement_0 0 rfl rfl ?_
  refine k_ldcS C hE (index := 60) (k := 0) (tx := "foot") (by decide) dX3_isStatement_1 ?_
  obtain ⟨x1, hx1, h⟩ := bindE h
  refine kcallR_i C (wc := (cells_T_isSpelt cI cL cZ a_this a_letters c_size c_token c_place c_end c_letters)) (r := x1) [0, 1] (fun H locs ls hP hD hS hF hz => krunV C (q0 := 0) (ci := 3) (c_T_isSpelt l D cI cL cZ X H.size a_this a_letters 0 c_size c_token c_place c_end c_letters (by decide) x1 hx1) (cwV 1 C.2.2.2.2.1 (gV wq_195 wq_196 wq_197 wq_161 wq_194) rfl rfl rfl (by decide +kernel) ⟨(Nat.le_of_ble_eq_true rfl), (Nat.le_of_ble_eq_true rfl)⟩) rfl rfl (kEs_call hE hS hF) rfl rfl (Nat.le_of_ble_eq_true rfl) dX3_isStatement_3 hP hD hz) rfl (by decide) ?_
  refine k_if_eq C (tgt := 30) dX3_isStatement_6 (by decide) (fun c_6 => ?_) (fun c_6 => ?_)
  · have h := ifT c_6 h
    refine k_aload_n C dX3_isStatement_30 0 rfl rfl ?_
    refine k_ldcS C hE (index := 71) (k := 1) (tx := "rake") (by decide) dX3_isStatement_31 ?_
    obtain ⟨x2, hx2, h⟩ := bindE h
    refine kcallU_i C (wc := (cells_T_isTaken cI cL cZ a_this a_letters c_size c_token c_place c_end c_letters)) (w1 := (cells_T_isTaken cI cL cZ a_this a_letters c_size x2.2.1 x2.2.2.1 x2.2.2.2 c_letters)) (ws' := (cells_T_isStatement cI cL cZ a_this a_letters a_p1 a_p1_stones a_p1_kinds a_p1_weights a_p1_chances c_size x2.2.1 x2.2.2.1 x2.2.2.2 c_letters c_p1_width c_p1_rain c_p1_ear c_p1_walkers c_p1_seed c_p1_stones c_p1_kinds c_p1_weights c_p1_chances)) (r := x2.1) [0, 1] (fun H locs ls hP hD hS hF hz => krunV C (q0 := 0) (ci := 3) (c_T_isTaken l D cI cL cZ X H.size a_this a_letters 1 c_size c_token c_place c_end c_letters (by decide) x2 hx2) (cwV 1 C.2.2.2.2.1 (gV wq_205 wq_206 wq_207 wq_161 wq_204) rfl rfl rfl (by decide +kernel) ⟨(Nat.le_of_ble_eq_true rfl), (Nat.le_of_ble_eq_true rfl)⟩) rfl rfl (kEs_call hE hS hF) rfl rfl (Nat.le_of_ble_eq_true rfl) dX3_isStatement_33 hP hD hz) rfl (by decide) rfl rfl ?_
    refine k_if_eq C (tgt := 45) dX3_isStatement_36 (by decide) (fun c_36 => ?_) (fun c_36 => ?_)
    · have h := ifT c_36 h
      refine k_aload_n C dX3_isStatement_45 0 rfl rfl ?_
      refine k_ldcS C hE (index := 79) (k := 2) (tx := "side") (by decide) dX3_isStatement_46 ?_
      obtain ⟨x3, hx3, h⟩ := bindE h
      refine kcallU_i C (wc := (cells_T_isTaken cI cL cZ a_this a_letters c_size x2.2.1 x2.2.2.1 x2.2.2.2 c_letters)) (w1 := (cells_T_isTaken cI cL cZ a_this a_letters c_size x3.2.1 x3.2.2.1 x3.2.2.2 c_letters)) (ws' := (cells_T_isStatement cI cL cZ a_this a_letters a_p1 a_p1_stones a_p1_kinds a_p1_weights a_p1_chances c_size x3.2.1 x3.2.2.1 x3.2.2.2 c_letters c_p1_width c_p1_rain c_p1_ear c_p1_walkers c_p1_seed c_p1_stones c_p1_kinds c_p1_weights c_p1_chances)) (r := x3.1) [0, 1] (fun H locs ls hP hD hS hF hz => krunV C (q0 := 0) (ci := 3) (c_T_isTaken l D cI cL cZ X H.size a_this a_letters 2 c_size x2.2.1 x2.2.2.1 x2.2.2.2 c_letters (by decide) x3 hx3) (cwV 1 C.2.2.2.2.1 (gV wq_205 wq_206 wq_207 wq_161 wq_204) rfl rfl rfl (by decide +kernel) ⟨(Nat.le_of_ble_eq_true rfl), (Nat.le_of_ble_eq_true rfl)⟩) rfl rfl (kEs_call hE hS hF) rfl rfl (Nat.le_of_ble_eq_true rfl) dX3_isStatement_48 hP hD hz) rfl (by decide) rfl rfl ?_
      refine k_if_eq C (tgt := 60) dX3_isStatement_51 (by decide) (fun c_51 => ?_) (fun c_51 => ?_)
      · have h := ifT c_51 h
        refine k_aload_n C dX3_isStatement_60 0 rfl rfl ?_
        refine k_ldcS C hE (index := 84) (k := 3) (tx := "gravel") (by decide) dX3_isStatement_61 ?_
        obtain ⟨x4, hx4, h⟩ := bindE h
        refine kcallU_i C (wc := (cells_T_isTaken cI cL cZ a_this a_letters c_size x3.2.1 x3.2.2.1 x3.2.2.2 c_letters)) (w1 := (cells_T_isTaken cI cL cZ a_this a_letters c_size x4.2.1 x4.2.2.1 x4.2.2.2 c_letters)) (ws' := (cells_T_isStatement cI cL cZ a_this a_letters a_p1 a_p1_stones a_p1_kinds a_p1_weights a_p1_chances c_size x4.2.1 x4.2.2.1 x4.2.2.2 c_letters c_p1_width c_p1_rain c_p1_ear c_p1_walkers c_p1_seed c_p1_stones c_p1_kinds c_p1_weights c_p1_chances)) (r := x4.1) [0, 1] (fun H locs ls hP hD hS hF hz => krunV C (q0 := 0) (ci := 3) (c_T_isTaken l D cI cL cZ X H.size a_this a_letters 3 c_size x3.2.1 x3.2.2.1 x3.2.2.2 c_letters (by decide) x4 hx4) (cwV 1 C.2.2.2.2.1 (gV wq_205 wq_206 wq_207 wq_161 wq_204) rfl rfl rfl (by decide +kernel) ⟨(Nat.le_of_ble_eq_true rfl), (Nat.le_of_ble_eq_true rfl)⟩) rfl rfl (kEs_call hE hS hF) rfl rfl (Nat.le_of_ble_eq_true rfl) dX3_isStatement_63 hP hD hz) rfl (by decide) rfl rfl ?_
        refine k_if_eq C (tgt := 75) dX3_isStatement_66 (by decide) (fun c_66 => ?_) (fun c_66 => ?_)
        · have h := ifT c_66 h
          refine k_aload_n C dX3_isStatement_75 0 rfl rfl ?_
          refine k_ldcS C hE (index := 89) (k := 4) (tx := "plank") (by decide) dX3_isStatement_76 ?_
          obtain ⟨x5, hx5, h⟩ := bindE h
          refine kcallU_i C (wc := (cells_T_isTaken cI cL cZ a_this a_letters c_size x4.2.1 x4.2.2.1 x4.2.2.2 c_letters)) (w1 := (cells_T_isTaken cI cL cZ a_this a_letters c_size x5.2.1 x5.2.2.1 x5.2.2.2 c_letters)) (ws' := (cells_T_isStatement cI cL cZ a_this a_letters a_p1 a_p1_stones a_p1_kinds a_p1_weights a_p1_chances c_size x5.2.1 x5.2.2.1 x5.2.2.2 c_letters c_p1_width c_p1_rain c_p1_ear c_p1_walkers c_p1_seed c_p1_stones c_p1_kinds c_p1_weights c_p1_chances)) (r := x5.1) [0, 1] (fun H locs ls hP hD hS hF hz => krunV C (q0 := 0) (ci := 3) (c_T_isTaken l D cI cL cZ X H.size a_this a_letters 4 c_size x4.2.1 x4.2.2.1 x4.2.2.2 c_letters (by decide) x5 hx5) (cwV 1 C.2.2.2.2.1 (gV wq_205 wq_206 wq_207 wq_161 wq_204) rfl rfl rfl (by decide +kernel) ⟨(Nat.le_of_ble_eq_true rfl), (Nat.le_of_ble_eq_true rfl)⟩) rfl rfl (kEs_call hE hS hF) rfl rfl (Nat.le_of_ble_eq_true rfl) dX3_isStatement_78 hP hD hz) rfl (by decide) rfl rfl ?_
          refine k_if_eq C (tgt := 90) dX3_isStatement_81 (by decide) (fun c_81 => ?_) (fun c_81 => ?_)
          · have h := ifT c_81 h
            refine k_aload_n C dX3_isStatement_90 0 rfl rfl ?_
            refine k_ldcS C hE (index := 94) (k := 5) (tx := "rain") (by decide) dX3_isStatement_91 ?_
            obtain ⟨x6, hx6, h⟩ := bindE h
            refine kcallU_i C (wc := (cells_T_isTaken cI cL cZ a_this a_letters c_size x5.2.1 x5.2.2.1 x5.2.2.2 c_letters)) (w1 := (cells_T_isTaken cI cL cZ a_this a_letters c_size x6.2.1 x6.2.2.1 x6.2.2.2 c_letters)) (ws' := (cells_T_isStatement cI cL cZ a_this a_letters a_p1 a_p1_stones a_p1_kinds a_p1_weights a_p1_chances c_size x6.2.1 x6.2.2.1 x6.2.2.2 c_letters c_p1_width c_p1_rain c_p1_ear c_p1_walkers c_p1_seed c_p1_stones c_p1_kinds c_p1_weights c_p1_chances)) (r := x6.1) [0, 1] (fun H locs ls hP hD hS hF hz => krunV C (q0 := 0) (ci := 3) (c_T_isTaken l D cI cL cZ X H.size a_this a_letters 5 c_size x5.2.1 x5.2.2.1 x5.2.2.2 c_letters (by decide) x6 hx6) (cwV 1 C.2.2.2.2.1 (gV wq_205 wq_206 wq_207 wq_161 wq_204) rfl rfl rfl (by decide +kernel) ⟨(Nat.le_of_ble_eq_true rfl), (Nat.le_of_ble_eq_true rfl)⟩) rfl rfl (kEs_call hE hS hF) rfl rfl (Nat.le_of_ble_eq_true rfl) dX3_isStatement_93 hP hD hz) rfl (by decide) rfl rfl ?_
            refine k_if_eq C (tgt := 105) dX3_isStatement_96 (by decide) (fun c_96 => ?_) (fun c_96 => ?_)
            · have h := ifT c_96 h
              refine k_aload_n C dX3_isStatement_105 0 rfl rfl ?_
              refine k_ldcS C hE (index := 99) (k := 6) (tx := "ear") (by decide) dX3_isStatement_106 ?_
              obtain ⟨x7, hx7, h⟩ := bindE h
              refine kcallU_i C (wc := (cells_T_isTaken cI cL cZ a_this a_letters c_size x6.2.1 x6.2.2.1 x6.2.2.2 c_letters)) (w1 := (cells_T_isTaken cI cL cZ a_this a_letters c_size x7.2.1 x7.2.2.1 x7.2.2.2 c_letters)) (ws' := (cells_T_isStatement cI cL cZ a_this a_letters a_p1 a_p1_stones a_p1_kinds a_p1_weights a_p1_chances c_size x7.2.1 x7.2.2.1 x7.2.2.2 c_letters c_p1_width c_p1_rain c_p1_ear c_p1_walkers c_p1_seed c_p1_stones c_p1_kinds c_p1_weights c_p1_chances)) (r := x7.1) [0, 1] (fun H locs ls hP hD hS hF hz => krunV C (q0 := 0) (ci := 3) (c_T_isTaken l D cI cL cZ X H.size a_this a_letters 6 c_size x6.2.1 x6.2.2.1 x6.2.2.2 c_letters (by decide) x7 hx7) (cwV 1 C.2.2.2.2.1 (gV wq_205 wq_206 wq_207 wq_161 wq_204) rfl rfl rfl (by decide +kernel) ⟨(Nat.le_of_ble_eq_true rfl), (Nat.le_of_ble_eq_true rfl)⟩) rfl rfl (kEs_call hE hS hF) rfl rfl (Nat.le_of_ble_eq_true rfl) dX3_isStatement_108 hP hD hz) rfl (by decide) rfl rfl ?_
              refine k_if_eq C (tgt := 126) dX3_isStatement_111 (by decide) (fun c_111 => ?_) (fun c_111 => ?_)
              · have h := ifT c_111 h
                refine k_iconst C (v := (0 : Int32)) dX3_isStatement_126 (by decide) ?_
                obtain rfl := Option.some.inj h
                exact kret_z C rfl nz0 dX3_isStatement_127
              · have h := ifF c_111 h
                refine k_aload_n C dX3_isStatement_114 0 rfl rfl ?_
                refine k_aload_n C dX3_isStatement_115 1 rfl rfl ?_
                obtain ⟨x8, hx8, h⟩ := bindE h
                refine kcallU_i C (wc := (cells_T_isEarTold cI cL cZ a_this a_letters a_p1 a_p1_stones a_p1_kinds a_p1_weights a_p1_chances c_size x7.2.1 x7.2.2.1 x7.2.2.2 c_letters c_p1_width c_p1_rain c_p1_ear c_p1_walkers c_p1_seed)) (w1 := (cells_T_isEarTold cI cL cZ a_this a_letters a_p1 a_p1_stones a_p1_kinds a_p1_weights a_p1_chances c_size x8.2.1 x8.2.2.1 x8.2.2.2.1 c_letters c_p1_width c_p1_rain x8.2.2.2.2 c_p1_walkers c_p1_seed)) (ws' := (cells_T_isStatement cI cL cZ a_this a_letters a_p1 a_p1_stones a_p1_kinds a_p1_weights a_p1_chances c_size x8.2.1 x8.2.2.1 x8.2.2.2.1 c_letters c_p1_width c_p1_rain x8.2.2.2.2 c_p1_walkers c_p1_seed c_p1_stones c_p1_kinds c_p1_weights c_p1_chances)) (r := x8.1) [0, 1, 2] (fun H locs ls hP hD hS hF hz => krunV C (q0 := 0) (ci := 3) (c_T_isEarTold l D cI cL cZ X H.size a_this a_letters a_p1 a_p1_stones a_p1_kinds a_p1_weights a_p1_chances c_size x7.2.1 x7.2.2.1 x7.2.2.2 c_letters c_p1_width c_p1_rain c_p1_ear c_p1_walkers c_p1_seed x8 hx8) (cwV 1 C.2.2.2.2.1 (gV wq_209 wq_210 wq_211 wq_161 wq_208) rfl rfl rfl (by decide +kernel) ⟨(Nat.le_of_ble_eq_true rfl), (Nat.le_of_ble_eq_true rfl)⟩) rfl rfl (kEs_call hE hS hF) rfl rfl (Nat.le_of_ble_eq_true rfl) dX3_isStatement_116 hP hD hz) rfl (by decide) rfl rfl ?_
                refine k_if_eq C (tgt := 126) dX3_isStatement_119 (by decide) (fun c_119 => ?_) (fun c_119 => ?_)
                · have h := ifT c_119 h
                  refine k_iconst C (v := (0 : Int32)) dX3_isStatement_126 (by decide) ?_
                  obtain rfl := Option.some.inj h
                  exact kret_z C rfl nz0 dX3_isStatement_127
                · have h := ifF c_119 h
                  refine k_iconst C (v := (1 : Int32)) dX3_isStatement_122 (by decide) ?_
                  refine k_goto C (tgt := 127) dX3_isStatement_123 (by decide) ?_
                  obtain rfl := Option.some.inj h
                  exact kret_z C rfl nz1 dX3_isStatement_127
            · have h := ifF c_96 h
              refine k_aload_n C dX3_isStatement_99 0 rfl rfl ?_
              refine k_aload_n C dX3_isStatement_100 1 rfl rfl ?_
              obtain ⟨x9, hx9, h⟩ := bindE h
              refine kcallU_i C (wc := (cells_T_isRainTold cI cL cZ a_this a_letters a_p1 a_p1_stones a_p1_kinds a_p1_weights a_p1_chances c_size x6.2.1 x6.2.2.1 x6.2.2.2 c_letters c_p1_width c_p1_rain c_p1_ear c_p1_walkers c_p1_seed)) (w1 := (cells_T_isRainTold cI cL cZ a_this a_letters a_p1 a_p1_stones a_p1_kinds a_p1_weights a_p1_chances c_size x9.2.1 x9.2.2.1 x9.2.2.2.1 c_letters c_p1_width x9.2.2.2.2 c_p1_ear c_p1_walkers c_p1_seed)) (ws' := (cells_T_isStatement cI cL cZ a_this a_letters a_p1 a_p1_stones a_p1_kinds a_p1_weights a_p1_chances c_size x9.2.1 x9.2.2.1 x9.2.2.2.1 c_letters c_p1_width x9.2.2.2.2 c_p1_ear c_p1_walkers c_p1_seed c_p1_stones c_p1_kinds c_p1_weights c_p1_chances)) (r := x9.1) [0, 1, 2] (fun H locs ls hP hD hS hF hz => krunV C (q0 := 0) (ci := 3) (c_T_isRainTold l D cI cL cZ X H.size a_this a_letters a_p1 a_p1_stones a_p1_kinds a_p1_weights a_p1_chances c_size x6.2.1 x6.2.2.1 x6.2.2.2 c_letters c_p1_width c_p1_rain c_p1_ear c_p1_walkers c_p1_seed x9 hx9) (cwV 1 C.2.2.2.2.1 (gV wq_213 wq_214 wq_215 wq_161 wq_212) rfl rfl rfl (by decide +kernel) ⟨(Nat.le_of_ble_eq_true rfl), (Nat.le_of_ble_eq_true rfl)⟩) rfl rfl (kEs_call hE hS hF) rfl rfl (Nat.le_of_ble_eq_true rfl) dX3_isStatement_101 hP hD hz) rfl (by decide) rfl rfl ?_
              obtain ⟨x10, hx10, h⟩ := bindE h
              obtain ⟨hz, rfl⟩ := zrE hx10
              obtain rfl := Option.some.inj h
              exact kret_z C rfl hz dX3_isStatement_104
          · have h := ifF c_81 h
            refine k_aload_n C dX3_isStatement_84 0 rfl rfl ?_
            refine k_aload_n C dX3_isStatement_85 1 rfl rfl ?_
            obtain ⟨x11, hx11, h⟩ := bindE h
            refine kcallU_i C (wc := (cells_T_isPlankTold cI cL cZ a_this a_letters a_p1 a_p1_stones a_p1_kinds a_p1_weights a_p1_chances c_size x5.2.1 x5.2.2.1 x5.2.2.2 c_letters c_p1_width c_p1_rain c_p1_ear c_p1_walkers c_p1_seed c_p1_stones)) (w1 := (cells_T_isPlankTold cI cL cZ a_this a_letters a_p1 a_p1_stones a_p1_kinds a_p1_weights a_p1_chances c_size x11.2.1 x11.2.2.1 x11.2.2.2.1 c_letters c_p1_width c_p1_rain c_p1_ear c_p1_walkers c_p1_seed x11.2.2.2.2)) (ws' := (cells_T_isStatement cI cL cZ a_this a_letters a_p1 a_p1_stones a_p1_kinds a_p1_weights a_p1_chances c_size x11.2.1 x11.2.2.1 x11.2.2.2.1 c_letters c_p1_width c_p1_rain c_p1_ear c_p1_walkers c_p1_seed x11.2.2.2.2 c_p1_kinds c_p1_weights c_p1_chances)) (r := x11.1) [0, 1, 2, 3] (fun H locs ls hP hD hS hF hz => krunV C (q0 := 0) (ci := 3) (c_T_isPlankTold l D cI cL cZ X H.size a_this a_letters a_p1 a_p1_stones a_p1_kinds a_p1_weights a_p1_chances c_size x5.2.1 x5.2.2.1 x5.2.2.2 c_letters c_p1_width c_p1_rain c_p1_ear c_p1_walkers c_p1_seed c_p1_stones x11 hx11) (cwV 1 C.2.2.2.2.1 (gV wq_217 wq_218 wq_219 wq_161 wq_216) rfl rfl rfl (by decide +kernel) ⟨(Nat.le_of_ble_eq_true rfl), (Nat.le_of_ble_eq_true rfl)⟩) rfl rfl (kEs_call hE hS hF) rfl rfl (Nat.le_of_ble_eq_true rfl) dX3_isStatement_86 hP hD hz) rfl (by decide) rfl rfl ?_
            obtain ⟨x12, hx12, h⟩ := bindE h
            obtain ⟨hz, rfl⟩ := zrE hx12
            obtain rfl := Option.some.inj h
            exact kret_z C rfl hz dX3_isStatement_89
        · have h := ifF c_66 h
          refine k_aload_n C dX3_isStatement_69 0 rfl rfl ?_
          refine k_aload_n C dX3_isStatement_70 1 rfl rfl ?_
          obtain ⟨x13, hx13, h⟩ := bindE h
          refine kcallU_i C (wc := (cells_T_isGravelTold cI cL cZ a_this a_letters a_p1 a_p1_stones a_p1_kinds a_p1_weights a_p1_chances c_size x4.2.1 x4.2.2.1 x4.2.2.2 c_letters c_p1_width c_p1_rain c_p1_ear c_p1_walkers c_p1_seed c_p1_stones)) (w1 := (cells_T_isGravelTold cI cL cZ a_this a_letters a_p1 a_p1_stones a_p1_kinds a_p1_weights a_p1_chances c_size x13.2.1 x13.2.2.1 x13.2.2.2.1 c_letters c_p1_width c_p1_rain c_p1_ear c_p1_walkers c_p1_seed x13.2.2.2.2)) (ws' := (cells_T_isStatement cI cL cZ a_this a_letters a_p1 a_p1_stones a_p1_kinds a_p1_weights a_p1_chances c_size x13.2.1 x13.2.2.1 x13.2.2.2.1 c_letters c_p1_width c_p1_rain c_p1_ear c_p1_walkers c_p1_seed x13.2.2.2.2 c_p1_kinds c_p1_weights c_p1_chances)) (r := x13.1) [0, 1, 2, 3] (fun H locs ls hP hD hS hF hz => krunV C (q0 := 0) (ci := 3) (c_T_isGravelTold l D cI cL cZ X H.size a_this a_letters a_p1 a_p1_stones a_p1_kinds a_p1_weights a_p1_chances c_size x4.2.1 x4.2.2.1 x4.2.2.2 c_letters c_p1_width c_p1_rain c_p1_ear c_p1_walkers c_p1_seed c_p1_stones x13 hx13) (cwV 1 C.2.2.2.2.1 (gV wq_221 wq_222 wq_223 wq_161 wq_220) rfl rfl rfl (by decide +kernel) ⟨(Nat.le_of_ble_eq_true rfl), (Nat.le_of_ble_eq_true rfl)⟩) rfl rfl (kEs_call hE hS hF) rfl rfl (Nat.le_of_ble_eq_true rfl) dX3_isStatement_71 hP hD hz) rfl (by decide) rfl rfl ?_
          obtain ⟨x14, hx14, h⟩ := bindE h
          obtain ⟨hz, rfl⟩ := zrE hx14
          obtain rfl := Option.some.inj h
          exact kret_z C rfl hz dX3_isStatement_74
      · have h := ifF c_51 h
        refine k_aload_n C dX3_isStatement_54 0 rfl rfl ?_
        refine k_aload_n C dX3_isStatement_55 1 rfl rfl ?_
        obtain ⟨x15, hx15, h⟩ := bindE h
        refine kcallU_i C (wc := (cells_T_isSideTold cI cL cZ a_this a_letters a_p1 a_p1_stones a_p1_kinds a_p1_weights a_p1_chances c_size x3.2.1 x3.2.2.1 x3.2.2.2 c_letters c_p1_width c_p1_rain c_p1_ear c_p1_walkers c_p1_seed c_p1_stones)) (w1 := (cells_T_isSideTold cI cL cZ a_this a_letters a_p1 a_p1_stones a_p1_kinds a_p1_weights a_p1_chances c_size x15.2.1 x15.2.2.1 x15.2.2.2.1 c_letters x15.2.2.2.2.1 c_p1_rain c_p1_ear c_p1_walkers c_p1_seed x15.2.2.2.2.2)) (ws' := (cells_T_isStatement cI cL cZ a_this a_letters a_p1 a_p1_stones a_p1_kinds a_p1_weights a_p1_chances c_size x15.2.1 x15.2.2.1 x15.2.2.2.1 c_letters x15.2.2.2.2.1 c_p1_rain c_p1_ear c_p1_walkers c_p1_seed x15.2.2.2.2.2 c_p1_kinds c_p1_weights c_p1_chances)) (r := x15.1) [0, 1, 2, 3] (fun H locs ls hP hD hS hF hz => krunV C (q0 := 0) (ci := 3) (c_T_isSideTold l D cI cL cZ X H.size a_this a_letters a_p1 a_p1_stones a_p1_kinds a_p1_weights a_p1_chances c_size x3.2.1 x3.2.2.1 x3.2.2.2 c_letters c_p1_width c_p1_rain c_p1_ear c_p1_walkers c_p1_seed c_p1_stones x15 hx15) (cwV 1 C.2.2.2.2.1 (gV wq_225 wq_226 wq_227 wq_161 wq_224) rfl rfl rfl (by decide +kernel) ⟨(Nat.le_of_ble_eq_true rfl), (Nat.le_of_ble_eq_true rfl)⟩) rfl rfl (kEs_call hE hS hF) rfl rfl (Nat.le_of_ble_eq_true rfl) dX3_isStatement_56 hP hD hz) rfl (by decide) rfl rfl ?_
        obtain ⟨x16, hx16, h⟩ := bindE h
        obtain ⟨hz, rfl⟩ := zrE hx16
        obtain rfl := Option.some.inj h
        exact kret_z C rfl hz dX3_isStatement_59
    · have h := ifF c_36 h
      refine k_aload_n C dX3_isStatement_39 1 rfl rfl ?_
      obtain ⟨x17, hx17, h⟩ := bindE h
      refine kcallU_v C (wc := (cells_D_rakeAll cI cL cZ a_p1 a_p1_stones a_p1_kinds a_p1_weights a_p1_chances c_p1_width c_p1_rain c_p1_ear c_p1_walkers c_p1_seed c_p1_stones)) (w1 := (cells_D_rakeAll cI cL cZ a_p1 a_p1_stones a_p1_kinds a_p1_weights a_p1_chances c_p1_width c_p1_rain c_p1_ear c_p1_walkers c_p1_seed x17)) (ws' := (cells_T_isStatement cI cL cZ a_this a_letters a_p1 a_p1_stones a_p1_kinds a_p1_weights a_p1_chances c_size x2.2.1 x2.2.2.1 x2.2.2.2 c_letters c_p1_width c_p1_rain c_p1_ear c_p1_walkers c_p1_seed x17 c_p1_kinds c_p1_weights c_p1_chances)) [2, 3] (fun H locs ls hP hD hS hF hz => krunV C (q0 := 0) (ci := 0) (c_D_rakeAll l D cI cL cZ H.size a_p1 a_p1_stones a_p1_kinds a_p1_weights a_p1_chances c_p1_width c_p1_rain c_p1_ear c_p1_walkers c_p1_seed c_p1_stones x17 hx17) (cwV 0 C.2.2.2.2.1 (gV wq_229 wq_230 wq_231 wq_72 wq_228) rfl rfl rfl (by decide +kernel) ⟨(Nat.le_of_ble_eq_true rfl), (Nat.le_of_ble_eq_true rfl)⟩) rfl rfl kEnv_T rfl rfl (Nat.le_of_ble_eq_true rfl) dX3_isStatement_40 hP hD hz) rfl (by decide) rfl rfl ?_
      refine k_iconst C (v := (1 : Int32)) dX3_isStatement_43 (by decide) ?_
      obtain rfl := Option.some.inj h
      exact kret_z C rfl nz1 dX3_isStatement_44
  · have h := ifF c_6 h
    refine k_aload_n C dX3_isStatement_9 1 rfl rfl ?_
    obtain ⟨x18, hx18, h⟩ := bindE h
    refine kcallR_i C (wc := (cells_D_isFull cI cL cZ a_p1 a_p1_stones a_p1_kinds a_p1_weights a_p1_chances c_p1_width c_p1_rain c_p1_ear c_p1_walkers c_p1_seed)) (r := x18) [2] (fun H locs ls hP hD hS hF hz => krunV C (q0 := 0) (ci := 0) (c_D_isFull l D cI cL cZ H.size a_p1 a_p1_stones a_p1_kinds a_p1_weights a_p1_chances c_p1_width c_p1_rain c_p1_ear c_p1_walkers c_p1_seed x18 hx18) (cwV 0 C.2.2.2.2.1 (gV wq_232 wq_148 wq_149 wq_72 wq_146) rfl rfl rfl (by decide +kernel) ⟨(Nat.le_of_ble_eq_true rfl), (Nat.le_of_ble_eq_true rfl)⟩) rfl rfl kEnv_T rfl rfl (Nat.le_of_ble_eq_true rfl) dX3_isStatement_10 hP hD hz) rfl (by decide) ?_
    refine k_if_ne C (tgt := 28) dX3_isStatement_13 (by decide) (fun c_13 => ?_) (fun c_13 => ?_)
    · have h := ifF c_13 h
      refine k_iconst C (v := (0 : Int32)) dX3_isStatement_28 (by decide) ?_
      obtain rfl := Option.some.inj h
      exact kret_z C rfl nz0 dX3_isStatement_29
    · have h := ifT c_13 h
      refine k_aload_n C dX3_isStatement_16 0 rfl rfl ?_
      refine k_aload_n C dX3_isStatement_17 1 rfl rfl ?_
      obtain ⟨x19, hx19, h⟩ := bindE h
      refine kcallU_i C (wc := (cells_T_isFootTold cI cL cZ a_this a_letters a_p1 a_p1_stones a_p1_kinds a_p1_weights a_p1_chances c_size c_token c_place c_end c_letters c_p1_width c_p1_rain c_p1_ear c_p1_walkers c_p1_seed c_p1_kinds c_p1_weights c_p1_chances)) (w1 := (cells_T_isFootTold cI cL cZ a_this a_letters a_p1 a_p1_stones a_p1_kinds a_p1_weights a_p1_chances c_size x19.2.1 x19.2.2.1 x19.2.2.2.1 c_letters c_p1_width c_p1_rain c_p1_ear x19.2.2.2.2.1 c_p1_seed x19.2.2.2.2.2.1 x19.2.2.2.2.2.2.1 x19.2.2.2.2.2.2.2)) (ws' := (cells_T_isStatement cI cL cZ a_this a_letters a_p1 a_p1_stones a_p1_kinds a_p1_weights a_p1_chances c_size x19.2.1 x19.2.2.1 x19.2.2.2.1 c_letters c_p1_width c_p1_rain c_p1_ear x19.2.2.2.2.1 c_p1_seed c_p1_stones x19.2.2.2.2.2.1 x19.2.2.2.2.2.2.1 x19.2.2.2.2.2.2.2)) (r := x19.1) [0, 1, 2, 4, 5, 6] (fun H locs ls hP hD hS hF hz => krunV C (q0 := 0) (ci := 3) (c_T_isFootTold l D cI cL cZ X H.size a_this a_letters a_p1 a_p1_stones a_p1_kinds a_p1_weights a_p1_chances c_size c_token c_place c_end c_letters c_p1_width c_p1_rain c_p1_ear c_p1_walkers c_p1_seed c_p1_kinds c_p1_weights c_p1_chances x19 hx19) (cwV 1 C.2.2.2.2.1 (gV wq_234 wq_235 wq_236 wq_161 wq_233) rfl rfl rfl (by decide +kernel) ⟨(Nat.le_of_ble_eq_true rfl), (Nat.le_of_ble_eq_true rfl)⟩) rfl rfl (kEs_call hE hS hF) rfl rfl (Nat.le_of_ble_eq_true rfl) dX3_isStatement_18 hP hD hz) rfl (by decide) rfl rfl ?_
      refine k_if_eq C (tgt := 28) dX3_isStatement_21 (by decide) (fun c_21 => ?_) (fun c_21 => ?_)
      · have h := ifT c_21 h
        refine k_iconst C (v := (0 : Int32)) dX3_isStatement_28 (by decide) ?_
        obtain rfl := Option.some.inj h
        exact kret_z C rfl nz0 dX3_isStatement_29
      · have h := ifF c_21 h
        refine k_iconst C (v := (1 : Int32)) dX3_isStatement_24 (by decide) ?_
        refine k_goto C (tgt := 29) dX3_isStatement_25 (by decide) ?_
        obtain rfl := Option.some.inj h
        exact kret_z C rfl nz1 dX3_isStatement_29
theorem c_T_isStatement (l : Launch) (D : va_G) (cI : ClassId) (cL : ClassId) (cZ : ClassId) (X : kX) (sz : Nat) (a_this : Nat) (a_letters : Nat) (a_p1 : Nat) (a_p1_stones : Nat) (a_p1_kinds : Nat) (a_p1_weights : Nat) (a_p1_chances : Nat) (c_size : Int32) (c_token : Int32) (c_place : Int32) (c_end : Int32) (c_letters : (Nat → Int32)) (c_p1_width : Int32) (c_p1_rain : Int32) (c_p1_ear : Int32) (c_p1_walkers : Int32) (c_p1_seed : Int32) (c_p1_stones : (Nat → Int32)) (c_p1_kinds : (Nat → Int32)) (c_p1_weights : (Nat → Int32)) (c_p1_chances : (Nat → Int32)) (x : (Int32 × Int32 × Int32 × Int32 × Int32 × Int32 × Int32 × Int32 × (Nat → Int32) × (Nat → Int32) × (Nat → Int32) × (Nat → Int32))) (h : f_T_isStatement c_size c_token c_place c_end c_letters c_p1_width c_p1_rain c_p1_ear c_p1_walkers c_p1_stones c_p1_kinds c_p1_weights c_p1_chances = some x) :
    Met l yX3_isStatement (Cond.code yX3_isStatement cX3_isStatement 2 (some .boolean) :: WS) rm_T_isStatement (kP D (tyG cI cL cZ) (kEs X (va_A (cells_T_isStatement cI cL cZ a_this a_letters a_p1 a_p1_stones a_p1_kinds a_p1_weights a_p1_chances c_size c_token c_place c_end c_letters c_p1_width c_p1_rain c_p1_ear c_p1_walkers c_p1_seed c_p1_stones c_p1_kinds c_p1_weights c_p1_chances) sz)) [.ref a_this, .ref a_p1] sz (cells_T_isStatement cI cL cZ a_this a_letters a_p1 a_p1_stones a_p1_kinds a_p1_weights a_p1_chances c_size c_token c_place c_end c_letters c_p1_width c_p1_rain c_p1_ear c_p1_walkers c_p1_seed c_p1_stones c_p1_kinds c_p1_weights c_p1_chances)) (kQi D (va_A (cells_T_isStatement cI cL cZ a_this a_letters a_p1 a_p1_stones a_p1_kinds a_p1_weights a_p1_chances c_size c_token c_place c_end c_letters c_p1_width c_p1_rain c_p1_ear c_p1_walkers c_p1_seed c_p1_stones c_p1_kinds c_p1_weights c_p1_chances) sz) (cells_T_isStatement cI cL cZ a_this a_letters a_p1 a_p1_stones a_p1_kinds a_p1_weights a_p1_chances c_size x.2.1 x.2.2.1 x.2.2.2.1 c_letters x.2.2.2.2.1 x.2.2.2.2.2.1 x.2.2.2.2.2.2.1 x.2.2.2.2.2.2.2.1 c_p1_seed x.2.2.2.2.2.2.2.2.1 x.2.2.2.2.2.2.2.2.2.1 x.2.2.2.2.2.2.2.2.2.2.1 x.2.2.2.2.2.2.2.2.2.2.2) x.1) 0 0 (va_A (cells_T_isStatement cI cL cZ a_this a_letters a_p1 a_p1_stones a_p1_kinds a_p1_weights a_p1_chances c_size c_token c_place c_end c_letters c_p1_width c_p1_rain c_p1_ear c_p1_walkers c_p1_seed c_p1_stones c_p1_kinds c_p1_weights c_p1_chances) sz) :=
  kmet (by decide) (Nat.le_of_ble_eq_true rfl) rfl (fun p e s m below meth c C hE => s_T_isStatement C hE h)
abbrev cells_T_readInto (cI : ClassId) (cL : ClassId) (cZ : ClassId) (a_this : Nat) (a_letters : Nat) (a_p1 : Nat) (a_p1_stones : Nat) (a_p1_kinds : Nat) (a_p1_weights : Nat) (a_p1_chances : Nat) (c_size : Int32) (c_token : Int32) (c_place : Int32) (c_end : Int32) (c_letters : (Nat → Int32)) (c_p1_width : Int32) (c_p1_rain : Int32) (c_p1_ear : Int32) (c_p1_walkers : Int32) (c_p1_seed : Int32) (c_p1_stones : (Nat → Int32)) (c_p1_kinds : (Nat → Int32)) (c_p1_weights : (Nat → Int32)) (c_p1_chances : (Nat → Int32)) : va_W := [(a_this, .inr (3, [.ref a_letters, .int c_size, .int c_token, .int c_place, .int c_end])), (a_letters, .inl (cI, 250, .inl c_letters)), (a_p1, .inr (0, [.ref a_p1_stones, .ref a_p1_kinds, .ref a_p1_weights, .ref a_p1_chances, .int c_p1_width, .int c_p1_rain, .int c_p1_ear, .int c_p1_walkers, .int c_p1_seed])), (a_p1_stones, .inl (cI, 36, .inl c_p1_stones)), (a_p1_kinds, .inl (cI, 8, .inl c_p1_kinds)), (a_p1_weights, .inl (cI, 8, .inl c_p1_weights)), (a_p1_chances, .inl (cI, 8, .inl c_p1_chances))]
abbrev rm_T_readInto : Room := { frames := 7, cells := 0, slots := 0, locals := 150 }

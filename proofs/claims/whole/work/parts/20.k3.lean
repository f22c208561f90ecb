theorem wj_0 : Cond.fieldLink RJ0 38 "java/lang/String" "COMPACT_STRINGS" "Z" ∈ WS := WS_g2 172 (by decide +kernel) (by decide +kernel)
theorem wj_1 : Cond.fieldLink RJ0 15 "java/lang/String" "coder" "B" ∈ WS := WS_g7 14 (by decide +kernel) (by decide +kernel)
theorem wj_2 : Cond.fieldLink RJ0 9 "java/lang/String" "value" "[B" ∈ WS := WS_g7 13 (by decide +kernel) (by decide +kernel)
theorem wj_3 : Cond.methodLink RJ0 335 yJ0_coder_7d493 ∈ WS := WS_g2 168 (by decide +kernel) (by decide +kernel)
theorem wj_4 : Cond.instanceMethod yJ0_coder_7d493 ∈ WS := WS_g2 169 (by decide +kernel) (by decide +kernel)
theorem wj_5 : Cond.selects RJ0 yJ0_coder_7d493 yJ0_coder_7d493 ∈ WS := WS_g2 170 (by decide +kernel) (by decide +kernel)
theorem wj_6 : Cond.initialized RJ0 ∈ WS := WS_g1 9 (by decide +kernel) (by decide +kernel)
theorem wj_7 : Cond.code yJ0_coder_7d493 cJ0_coder_7d493 1 (some .byte) ∈ WS := WS_g2 171 (by decide +kernel) (by decide +kernel)
theorem wj_8 : Cond.fieldLink RJ0 1053 "jdk/internal/util/Preconditions" "SIOOBE_FORMATTER" "Ljava/util/function/BiFunction;" ∈ WS := WS_g2 188 (by decide +kernel) (by decide +kernel)
theorem wj_9 : Cond.methodLink RJ0 1059 yJ3_checkIndex_8e157 ∈ WS := WS_g2 190 (by decide +kernel) (by decide +kernel)
theorem wj_10 : Cond.static yJ3_checkIndex_8e157 ∈ WS := WS_g2 191 (by decide +kernel) (by decide +kernel)
theorem wj_11 : Cond.initialized RJ3 ∈ WS := WS_g1 11 (by decide +kernel) (by decide +kernel)
theorem wj_12 : Cond.code yJ3_checkIndex_8e157 cJ3_checkIndex_8e157 3 (some .int) ∈ WS := WS_g2 192 (by decide +kernel) (by decide +kernel)
theorem wj_13 : Cond.methodLink RJ1 9 yJ0_checkIndex_df160 ∈ WS := WS_g2 185 (by decide +kernel) (by decide +kernel)
theorem wj_14 : Cond.static yJ0_checkIndex_df160 ∈ WS := WS_g2 186 (by decide +kernel) (by decide +kernel)
theorem wj_15 : Cond.code yJ0_checkIndex_df160 cJ0_checkIndex_df160 2 none ∈ WS := WS_g2 187 (by decide +kernel) (by decide +kernel)
theorem wj_16 : Cond.methodLink RJ0 492 yJ0_isLatin1_aae02 ∈ WS := WS_g2 178 (by decide +kernel) (by decide +kernel)
theorem wj_17 : Cond.instanceMethod yJ0_isLatin1_aae02 ∈ WS := WS_g2 179 (by decide +kernel) (by decide +kernel)
theorem wj_18 : Cond.selects RJ0 yJ0_isLatin1_aae02 yJ0_isLatin1_aae02 ∈ WS := WS_g2 180 (by decide +kernel) (by decide +kernel)
theorem wj_19 : Cond.code yJ0_isLatin1_aae02 cJ0_isLatin1_aae02 1 (some .boolean) ∈ WS := WS_g2 181 (by decide +kernel) (by decide +kernel)
theorem wj_20 : Cond.methodLink RJ0 495 yJ1_charAt_3b067 ∈ WS := WS_g2 182 (by decide +kernel) (by decide +kernel)
theorem wj_21 : Cond.static yJ1_charAt_3b067 ∈ WS := WS_g2 183 (by decide +kernel) (by decide +kernel)
theorem wj_22 : Cond.initialized RJ1 ∈ WS := WS_g1 10 (by decide +kernel) (by decide +kernel)
theorem wj_23 : Cond.code yJ1_charAt_3b067 cJ1_charAt_3b067 2 (some .char) ∈ WS := WS_g2 184 (by decide +kernel) (by decide +kernel)
theorem wj_24 : Cond.instanceMethod yJ0_length_8abf5 ∈ WS := WS_g2 165 (by decide +kernel) (by decide +kernel)
theorem wj_25 : Cond.selects RJ0 yJ0_length_8abf5 yJ0_length_8abf5 ∈ WS := WS_g2 166 (by decide +kernel) (by decide +kernel)
theorem wj_26 : Cond.code yJ0_length_8abf5 cJ0_length_8abf5 1 (some .int) ∈ WS := WS_g2 167 (by decide +kernel) (by decide +kernel)
theorem wj_27 : Cond.instanceMethod yJ0_charAt_5068e ∈ WS := WS_g2 175 (by decide +kernel) (by decide +kernel)
theorem wj_28 : Cond.selects RJ0 yJ0_charAt_5068e yJ0_charAt_5068e ∈ WS := WS_g2 176 (by decide +kernel) (by decide +kernel)
theorem wj_29 : Cond.code yJ0_charAt_5068e cJ0_charAt_5068e 2 (some .char) ∈ WS := WS_g2 177 (by decide +kernel) (by decide +kernel)
theorem nz0 : narrow .boolean (.int (0 : Int32)) = .int (0 : Int32) := rfl
theorem nz1 : narrow .boolean (.int (1 : Int32)) = .int (1 : Int32) := rfl
theorem slen_shr : ∀ k, k < 7 → slen k >>> ((0 : Int32) &&& 31) = slen k := by decide
theorem slen_le : ∀ k, k < 7 → sLen.getD k 0 ≤ 6 := by decide
theorem slen_lt {k : Nat} (hk : k < 7) {i : Int32} (h : ¬ (i < 0 ∨ sLen.getD k 0 ≤ i.toNatClampNeg)) : i < slen k := by
  have h1 := slen_le k hk
  have h2 : (Int32.ofNat (sLen.getD k 0)).toInt = ((sLen.getD k 0 : Nat) : Int) := nI_toInt (Nat.lt_of_le_of_lt h1 (by decide))
  have h3 : ¬ i < 0 := fun z => h (Or.inl z)
  have h4 : ¬ sLen.getD k 0 ≤ i.toNatClampNeg := fun z => h (Or.inr z)
  rw [Int32.lt_iff_toInt_lt] at h3 ⊢
  have h5 : i.toNatClampNeg = i.toInt.toNat := rfl
  have h6 : (0 : Int32).toInt = 0 := rfl
  unfold slen
  omega
theorem schr_nar : ∀ k, k < 7 → ∀ j, j < 6 → narrow .char (.int (i2c (((sByt.getD k []).getD j 0) &&& 255))) = .int (i2c (((sByt.getD k []).getD j 0) &&& 255)) := by decide
section K3
variable {p : Program} {l : Launch} {e : Env} {R : Room} {s : State} {m : MethodId} {args : Array Value} {below : List Frame} {meth : Method} {c : Code} {D : va_G} {tys : List (ClassId × FieldType)} {A : Nat → Prop} {n : Nat} {cc : ByteArray} {own : String} {Wd : List Cond} {ret : Option FieldType}
variable {ws : va_W} {lv : List (Nat × Value)} {Q : State → Prop} {pc : Nat} {st : List Value}
theorem krunE (C : kC p l e R s m args below meth c D tys A n cc own Wd ret) {X : kX} (hE : kEs X A s) {k : Nat} (hk : k < 7) {y : MethodName} {bytes : ByteArray} {maxL nA index : Nat} {ret' : Option FieldType} {wy : List Cond} {rm : Room} {Qc : Array Value → State → Outcome → State → Prop} {As rest : List Value} {H : Heap} {locs : List Loc} {ls : Array Slot}
    (hM : Met l y wy rm (kP D tys (kEs X (va_A [] H.size)) (.ref (X.1 k) :: As) H.size []) Qc 0 0 (va_A [] H.size)) (cw : CallW R s args own "java/lang/String" index y bytes maxL ret' wy rm 0 0 nA) (hS : va_S A s.heap H locs) (hF : ∀ q, va_A [] H.size q → A q) (hn : As.length = nA) (hst : st = As.reverse ++ .ref (X.1 k) :: rest) (hW : (rest.map fun v => v.category).sum ≤ 8) (hd : decode cc pc = .ok (.invokevirtual index, 3))
    (hz : ls.size = n) : va_Run p l e R s m args below meth c H locs 0 0 0 0 (F0 m pc ls st) rest (Qc (Value.ref (X.1 k) :: As).toArray) (va_A [] H.size) := by
  have hV := kEs_call hE hS hF
  obtain ⟨cell, z1, z2, z3, -⟩ := ((hE.1.1 k hk).1).kept hS.2.1
  have hp : PreV s H "java/lang/String" (X.1 k) (kP D tys (kEs X (va_A [] H.size)) (.ref (X.1 k) :: As) H.size []) As :=
    ⟨kP_blind hV.1, ⟨cell, z1, z2, z3⟩, fun U hU hW => ⟨rfl, by rw [hU], fun k q h => by simp at h, va_K.moved hW.alike C.2.2.2.2.2.1, ⟨fun i j p q h => by simp at h, fun k q h => by simp at h⟩, hV.2 U hU hW⟩⟩
  exact va_runV (nL := n) ⟨C.1, C.2.1, C.2.2.1, C.2.2.2.1, C.2.2.2.2.1⟩ hM cw hp rfl hn hz hst (lv_room hW) hd ⟨Nat.zero_le _, Nat.zero_le _⟩
theorem k_tbld (C : kC p l e R s m args below meth c D tys A n cc own Wd ret) {X : kX} (hE : kEs X A s) {k : Nat} (hk : k < 7) {i : Int32} (hin : ¬ (i < 0 ∨ sLen.getD k 0 ≤ i.toNatClampNeg)) (hd : decode cc pc = .ok (.baload, 1)) (kk : kW p l e R s m args below meth c D A n ws lv Q (pc + 1) (.int ((sByt.getD k []).getD i.toNatClampNeg 0) :: st)) : kW p l e R s m args below meth c D A n ws lv Q pc (.int i :: .ref (X.2.1 k) :: st) :=
  fun H locs ls hP hD hS hl => va_tb C.1 C.2.1 (hE.1.1 k hk).2.2.2 hS hin rfl hd (kk H locs ls hP hD hS hl)
set_option maxRecDepth 100000 in
set_option maxHeartbeats 4000000 in
theorem sj_coder (C : kC p l e ({ frames := 0, cells := 0, slots := 0, locals := 0 } : Room) s m args below meth c D tys A 1 cJ0_coder_7d493 yJ0_coder_7d493.cls (Cond.code yJ0_coder_7d493 cJ0_coder_7d493 1 (some .byte) :: WS) (some .byte)) {X : kX} (hE : kEs X A s) {k : Nat} (hk : k < 7) :
    kW p l e ({ frames := 0, cells := 0, slots := 0, locals := 0 } : Room) s m args below meth c D A 1 [] [(0, .ref (X.1 k))] (MQ below (kQi D A [] 0) args s 0 0 A) 0 [] := by
  refine k_getsC C hE (List.mem_cons_of_mem _ wj_0) dJ0_coder_7d493_0 ?_
  refine k_if_eq C (tgt := 13) dJ0_coder_7d493_3 (by decide) (fun z => absurd z (by decide)) (fun _ => ?_)
  refine k_aload_n C dJ0_coder_7d493_6 0 rfl rfl ?_
  refine k_coder C hE hk (List.mem_cons_of_mem _ wj_1) dJ0_coder_7d493_7 ?_
  refine k_goto C (tgt := 14) dJ0_coder_7d493_10 (by decide) ?_
  exact kret_z C rfl rfl dJ0_coder_7d493_14
theorem cj_coder (l : Launch) (D : va_G) (tys : List (ClassId × FieldType)) (X : kX) (sz : Nat) (k : Nat) (hk : k < 7) :
    Met l yJ0_coder_7d493 (Cond.code yJ0_coder_7d493 cJ0_coder_7d493 1 (some .byte) :: WS) ({ frames := 0, cells := 0, slots := 0, locals := 0 } : Room) (kP D tys (kEs X (va_A [] sz)) [.ref (X.1 k)] sz []) (kQi D (va_A [] sz) [] 0) 0 0 (va_A [] sz) :=
  kmet (by decide) (Nat.le_of_ble_eq_true rfl) rfl (fun p e s m below meth c C hE => sj_coder C hE hk)
set_option maxRecDepth 100000 in
set_option maxHeartbeats 4000000 in
theorem sj_isL (C : kC p l e ({ frames := 0, cells := 0, slots := 0, locals := 0 } : Room) s m args below meth c D tys A 1 cJ0_isLatin1_aae02 yJ0_isLatin1_aae02.cls (Cond.code yJ0_isLatin1_aae02 cJ0_isLatin1_aae02 1 (some .boolean) :: WS) (some .boolean)) {X : kX} (hE : kEs X A s) {k : Nat} (hk : k < 7) :
    kW p l e ({ frames := 0, cells := 0, slots := 0, locals := 0 } : Room) s m args below meth c D A 1 [] [(0, .ref (X.1 k))] (MQ below (kQi D A [] 1) args s 0 0 A) 0 [] := by
  refine k_getsC C hE (List.mem_cons_of_mem _ wj_0) dJ0_isLatin1_aae02_0 ?_
  refine k_if_eq C (tgt := 17) dJ0_isLatin1_aae02_3 (by decide) (fun z => absurd z (by decide)) (fun _ => ?_)
  refine k_aload_n C dJ0_isLatin1_aae02_6 0 rfl rfl ?_
  refine k_coder C hE hk (List.mem_cons_of_mem _ wj_1) dJ0_isLatin1_aae02_7 ?_
  refine k_if_ne C (tgt := 17) dJ0_isLatin1_aae02_10 (by decide) (fun z => absurd rfl z) (fun _ => ?_)
  refine k_iconst C (v := 1) dJ0_isLatin1_aae02_13 (by decide) ?_
  refine k_goto C (tgt := 18) dJ0_isLatin1_aae02_14 (by decide) ?_
  exact kret_z C rfl rfl dJ0_isLatin1_aae02_18
theorem cj_isL (l : Launch) (D : va_G) (tys : List (ClassId × FieldType)) (X : kX) (sz : Nat) (k : Nat) (hk : k < 7) :
    Met l yJ0_isLatin1_aae02 (Cond.code yJ0_isLatin1_aae02 cJ0_isLatin1_aae02 1 (some .boolean) :: WS) ({ frames := 0, cells := 0, slots := 0, locals := 0 } : Room) (kP D tys (kEs X (va_A [] sz)) [.ref (X.1 k)] sz []) (kQi D (va_A [] sz) [] 1) 0 0 (va_A [] sz) :=
  kmet (by decide) (Nat.le_of_ble_eq_true rfl) rfl (fun p e s m below meth c C hE => sj_isL C hE hk)
set_option maxRecDepth 100000 in
set_option maxHeartbeats 4000000 in
theorem sj_len (C : kC p l e ({ frames := 1, cells := 0, slots := 0, locals := 20 } : Room) s m args below meth c D tys A 1 cJ0_length_8abf5 yJ0_length_8abf5.cls (Cond.code yJ0_length_8abf5 cJ0_length_8abf5 1 (some .int) :: WS) (some .int)) {X : kX} (hE : kEs X A s) {k : Nat} (hk : k < 7) :
    kW p l e ({ frames := 1, cells := 0, slots := 0, locals := 20 } : Room) s m args below meth c D A 1 [] [(0, .ref (X.1 k))] (MQ below (kQi D A [] (slen k)) args s 0 0 A) 0 [] := by
  refine k_aload_n C dJ0_length_8abf5_0 0 rfl rfl ?_
  refine k_value C hE hk (List.mem_cons_of_mem _ wj_2) dJ0_length_8abf5_1 ?_
  refine k_vlen C hE hk dJ0_length_8abf5_4 ?_
  refine k_aload_n C dJ0_length_8abf5_5 0 rfl rfl ?_
  refine kcallE_i C (r := 0) (fun H locs ls hP hD hS hF hz => krunE C hE hk (cj_coder l D tys X H.size k hk) (cwV 0 C.2.2.2.2.1 (gV wj_3 wj_4 wj_5 wj_6 wj_7) rfl rfl rfl (by decide +kernel) ⟨(Nat.le_of_ble_eq_true rfl), (Nat.le_of_ble_eq_true rfl)⟩) hS hF rfl rfl (Nat.le_of_ble_eq_true rfl) dJ0_length_8abf5_6 hz) ?_
  refine k_ishr C dJ0_length_8abf5_9 ?_
  rw [slen_shr k hk]
  exact kret_i C rfl dJ0_length_8abf5_10
theorem cj_len (l : Launch) (D : va_G) (tys : List (ClassId × FieldType)) (X : kX) (sz : Nat) (k : Nat) (hk : k < 7) :
    Met l yJ0_length_8abf5 (Cond.code yJ0_length_8abf5 cJ0_length_8abf5 1 (some .int) :: WS) ({ frames := 1, cells := 0, slots := 0, locals := 20 } : Room) (kP D tys (kEs X (va_A [] sz)) [.ref (X.1 k)] sz []) (kQi D (va_A [] sz) [] (slen k)) 0 0 (va_A [] sz) :=
  kmet (by decide) (Nat.le_of_ble_eq_true rfl) rfl (fun p e s m below meth c C hE => sj_len C hE hk)
set_option maxRecDepth 100000 in
set_option maxHeartbeats 4000000 in
theorem sj_pchk (C : kC p l e ({ frames := 0, cells := 0, slots := 0, locals := 0 } : Room) s m args below meth c D tys A 3 cJ3_checkIndex_8e157 yJ3_checkIndex_8e157.cls (Cond.code yJ3_checkIndex_8e157 cJ3_checkIndex_8e157 3 (some .int) :: WS) (some .int)) {i n0 : Int32} {v : Value} (h0 : ¬ i < 0) (h1 : i < n0) :
    kW p l e ({ frames := 0, cells := 0, slots := 0, locals := 0 } : Room) s m args below meth c D A 3 [] [(0, .int i), (1, .int n0), (2, v)] (MQ below (kQi D A [] i) args s 0 0 A) 0 [] := by
  refine k_iload_n C dJ3_checkIndex_8e157_0 0 rfl rfl ?_
  refine k_if_lt C (tgt := 9) dJ3_checkIndex_8e157_1 (by decide) (fun z => absurd z h0) (fun _ => ?_)
  refine k_iload_n C dJ3_checkIndex_8e157_4 0 rfl rfl ?_
  refine k_iload_n C dJ3_checkIndex_8e157_5 1 rfl rfl ?_
  refine k_icmp_lt C (tgt := 16) dJ3_checkIndex_8e157_6 (by decide) (fun _ => ?_) (fun z => absurd h1 z)
  refine k_iload_n C dJ3_checkIndex_8e157_16 0 rfl rfl ?_
  exact kret_i C rfl dJ3_checkIndex_8e157_17
theorem cj_pchk (l : Launch) (D : va_G) (tys : List (ClassId × FieldType)) (X : kX) (sz : Nat) (i n0 : Int32) (v : Value) (hv : v.category = 1) (h0 : ¬ i < 0) (h1 : i < n0) :
    Met l yJ3_checkIndex_8e157 (Cond.code yJ3_checkIndex_8e157 cJ3_checkIndex_8e157 3 (some .int) :: WS) ({ frames := 0, cells := 0, slots := 0, locals := 0 } : Room) (kP D tys kTrue [.int i, .int n0, v] sz []) (kQi D (va_A [] sz) [] i) 0 0 (va_A [] sz) :=
  kmet (by decide) (by cases v <;> first | exact Nat.le_of_ble_eq_true rfl | (simp [Value.category] at hv)) rfl (fun p e s m below meth c C hE => sj_pchk C h0 h1)
set_option maxRecDepth 100000 in
set_option maxHeartbeats 4000000 in
theorem sj_schk (C : kC p l e ({ frames := 1, cells := 0, slots := 0, locals := 22 } : Room) s m args below meth c D tys A 2 cJ0_checkIndex_df160 yJ0_checkIndex_df160.cls (Cond.code yJ0_checkIndex_df160 cJ0_checkIndex_df160 2 none :: WS) none) {X : kX} (hE : kEs X A s) {i n0 : Int32} (h0 : ¬ i < 0) (h1 : i < n0) :
    kW p l e ({ frames := 1, cells := 0, slots := 0, locals := 22 } : Room) s m args below meth c D A 2 [] [(0, .int i), (1, .int n0)] (MQ below (kQv D A []) args s 0 0 A) 0 [] := by
  refine k_iload_n C dJ0_checkIndex_df160_0 0 rfl rfl ?_
  refine k_iload_n C dJ0_checkIndex_df160_1 1 rfl rfl ?_
  refine k_getsF C hE (List.mem_cons_of_mem _ wj_8) dJ0_checkIndex_df160_2 ?_
  refine kcallE_i C (r := i) (fun H locs ls hP hD hS hF hz => krunS C (cj_pchk l D tys X H.size i n0 X.2.2.2 hE.2.2.2.2.2.2.1 h0 h1) (va_cwS 3 C.2.2.2.2.1 (gS wj_9 wj_10 wj_11 wj_12) rfl rfl rfl (by decide +kernel) ⟨(Nat.le_of_ble_eq_true rfl), (Nat.le_of_ble_eq_true rfl)⟩) kEnv_T rfl rfl (Nat.le_of_ble_eq_true rfl) dJ0_checkIndex_df160_5 hP hD hz) ?_
  refine k_pop C dJ0_checkIndex_df160_8 rfl ?_
  exact kret_v C rfl dJ0_checkIndex_df160_9
theorem cj_schk (l : Launch) (D : va_G) (tys : List (ClassId × FieldType)) (X : kX) (sz : Nat) (i n0 : Int32) (h0 : ¬ i < 0) (h1 : i < n0) :
    Met l yJ0_checkIndex_df160 (Cond.code yJ0_checkIndex_df160 cJ0_checkIndex_df160 2 none :: WS) ({ frames := 1, cells := 0, slots := 0, locals := 22 } : Room) (kP D tys (kEs X (va_A [] sz)) [.int i, .int n0] sz []) (kQv D (va_A [] sz) []) 0 0 (va_A [] sz) :=
  kmet (by decide) (Nat.le_of_ble_eq_true rfl) rfl (fun p e s m below meth c C hE => sj_schk C hE h0 h1)
set_option maxRecDepth 100000 in
set_option maxHeartbeats 4000000 in
theorem sj_lchr (C : kC p l e ({ frames := 2, cells := 0, slots := 0, locals := 43 } : Room) s m args below meth c D tys A 2 cJ1_charAt_3b067 yJ1_charAt_3b067.cls (Cond.code yJ1_charAt_3b067 cJ1_charAt_3b067 2 (some .char) :: WS) (some .char)) {X : kX} (hE : kEs X A s) {k : Nat} {i : Int32} (hk : k < 7) (hin : ¬ (i < 0 ∨ sLen.getD k 0 ≤ i.toNatClampNeg)) :
    kW p l e ({ frames := 2, cells := 0, slots := 0, locals := 43 } : Room) s m args below meth c D A 2 [] [(0, .ref (X.2.1 k)), (1, .int i)] (MQ below (kQi D A [] (i2c (((sByt.getD k []).getD i.toNatClampNeg 0) &&& 255))) args s 0 0 A) 0 [] := by
  refine k_iload_n C dJ1_charAt_3b067_0 1 rfl rfl ?_
  refine k_aload_n C dJ1_charAt_3b067_1 0 rfl rfl ?_
  refine k_vlen C hE hk dJ1_charAt_3b067_2 ?_
  refine kcallE_v C (fun H locs ls hP hD hS hF hz => krunS C (cj_schk l D tys X H.size i (slen k) (fun z => hin (Or.inl z)) (slen_lt hk hin)) (va_cwS 2 C.2.2.2.2.1 (gS wj_13 wj_14 wj_6 wj_15) rfl rfl rfl (by decide +kernel) ⟨(Nat.le_of_ble_eq_true rfl), (Nat.le_of_ble_eq_true rfl)⟩) (kEs_call hE hS hF) rfl rfl (Nat.le_of_ble_eq_true rfl) dJ1_charAt_3b067_3 hP hD hz) ?_
  refine k_aload_n C dJ1_charAt_3b067_6 0 rfl rfl ?_
  refine k_iload_n C dJ1_charAt_3b067_7 1 rfl rfl ?_
  refine k_tbld C hE hk hin dJ1_charAt_3b067_8 ?_
  refine k_sipush C (v := 255) dJ1_charAt_3b067_9 (by decide) ?_
  refine k_iand C dJ1_charAt_3b067_12 ?_
  refine k_i2c C dJ1_charAt_3b067_13 ?_
  exact kret_z C rfl (schr_nar k hk _ (Nat.lt_of_lt_of_le (Nat.not_le.mp fun z => hin (Or.inr z)) (slen_le k hk))) dJ1_charAt_3b067_14
theorem cj_lchr (l : Launch) (D : va_G) (tys : List (ClassId × FieldType)) (X : kX) (sz : Nat) (k : Nat) (i : Int32) (hk : k < 7) (hin : ¬ (i < 0 ∨ sLen.getD k 0 ≤ i.toNatClampNeg)) :
    Met l yJ1_charAt_3b067 (Cond.code yJ1_charAt_3b067 cJ1_charAt_3b067 2 (some .char) :: WS) ({ frames := 2, cells := 0, slots := 0, locals := 43 } : Room) (kP D tys (kEs X (va_A [] sz)) [.ref (X.2.1 k), .int i] sz []) (kQi D (va_A [] sz) [] (i2c (((sByt.getD k []).getD i.toNatClampNeg 0) &&& 255))) 0 0 (va_A [] sz) :=
  kmet (by decide) (Nat.le_of_ble_eq_true rfl) rfl (fun p e s m below meth c C hE => sj_lchr C hE hk hin)
set_option maxRecDepth 100000 in
set_option maxHeartbeats 4000000 in
theorem sj_chr (C : kC p l e ({ frames := 3, cells := 0, slots := 0, locals := 64 } : Room) s m args below meth c D tys A 2 cJ0_charAt_5068e yJ0_charAt_5068e.cls (Cond.code yJ0_charAt_5068e cJ0_charAt_5068e 2 (some .char) :: WS) (some .char)) {X : kX} (hE : kEs X A s) {k : Nat} {i : Int32} (hk : k < 7) (hin : ¬ (i < 0 ∨ sLen.getD k 0 ≤ i.toNatClampNeg)) :
    kW p l e ({ frames := 3, cells := 0, slots := 0, locals := 64 } : Room) s m args below meth c D A 2 [] [(0, .ref (X.1 k)), (1, .int i)] (MQ below (kQi D A [] (i2c (((sByt.getD k []).getD i.toNatClampNeg 0) &&& 255))) args s 0 0 A) 0 [] := by
  refine k_aload_n C dJ0_charAt_5068e_0 0 rfl rfl ?_
  refine kcallE_i C (r := 1) (fun H locs ls hP hD hS hF hz => krunE C hE hk (cj_isL l D tys X H.size k hk) (cwV 0 C.2.2.2.2.1 (gV wj_16 wj_17 wj_18 wj_6 wj_19) rfl rfl rfl (by decide +kernel) ⟨(Nat.le_of_ble_eq_true rfl), (Nat.le_of_ble_eq_true rfl)⟩) hS hF rfl rfl (Nat.le_of_ble_eq_true rfl) dJ0_charAt_5068e_1 hz) ?_
  refine k_if_eq C (tgt := 16) dJ0_charAt_5068e_4 (by decide) (fun z => absurd z (by decide)) (fun _ => ?_)
  refine k_aload_n C dJ0_charAt_5068e_7 0 rfl rfl ?_
  refine k_value C hE hk (List.mem_cons_of_mem _ wj_2) dJ0_charAt_5068e_8 ?_
  refine k_iload_n C dJ0_charAt_5068e_11 1 rfl rfl ?_
  refine kcallE_i C (r := (i2c (((sByt.getD k []).getD i.toNatClampNeg 0) &&& 255))) (fun H locs ls hP hD hS hF hz => krunS C (cj_lchr l D tys X H.size k i hk hin) (va_cwS 2 C.2.2.2.2.1 (gS wj_20 wj_21 wj_22 wj_23) rfl rfl rfl (by decide +kernel) ⟨(Nat.le_of_ble_eq_true rfl), (Nat.le_of_ble_eq_true rfl)⟩) (kEs_call hE hS hF) rfl rfl (Nat.le_of_ble_eq_true rfl) dJ0_charAt_5068e_12 hP hD hz) ?_
  exact kret_z C rfl (schr_nar k hk _ (Nat.lt_of_lt_of_le (Nat.not_le.mp fun z => hin (Or.inr z)) (slen_le k hk))) dJ0_charAt_5068e_15
theorem cj_chr (l : Launch) (D : va_G) (tys : List (ClassId × FieldType)) (X : kX) (sz : Nat) (k : Nat) (i : Int32) (hk : k < 7) (hin : ¬ (i < 0 ∨ sLen.getD k 0 ≤ i.toNatClampNeg)) :
    Met l yJ0_charAt_5068e (Cond.code yJ0_charAt_5068e cJ0_charAt_5068e 2 (some .char) :: WS) ({ frames := 3, cells := 0, slots := 0, locals := 64 } : Room) (kP D tys (kEs X (va_A [] sz)) [.ref (X.1 k), .int i] sz []) (kQi D (va_A [] sz) [] (i2c (((sByt.getD k []).getD i.toNatClampNeg 0) &&& 255))) 0 0 (va_A [] sz) :=
  kmet (by decide) (Nat.le_of_ble_eq_true rfl) rfl (fun p e s m below meth c C hE => sj_chr C hE hk hin)
theorem k_slen {c0 : Cond} (C : kC p l e R s m args below meth c D tys A n cc own (c0 :: WS) ret) {X : kX} (hE : kEs X A s) {k index : Nat} (hk : k < 7) (hl : Cond.methodLink own index yJ0_length_8abf5 ∈ WS) (hR : 1 + 1 ≤ R.frames ∧ 8 + (1 + 11) + 20 ≤ R.locals) (hW : (st.map fun v => v.category).sum ≤ 8) (hd : decode cc pc = .ok (.invokevirtual index, 3)) (kk : kW p l e R s m args below meth c D A n ws lv Q (pc + 3) (.int (slen k) :: st)) : kW p l e R s m args below meth c D A n ws lv Q pc (.ref (X.1 k) :: st) :=
  kcallE_i C (r := slen k) (fun H locs ls hP hD hS hF hz => krunE C hE hk (cj_len l D tys X H.size k hk) (cwV 0 C.2.2.2.2.1 (gV hl wj_24 wj_25 wj_6 wj_26) rfl rfl rfl (by decide +kernel) hR) hS hF rfl rfl hW hd hz) kk
theorem k_schr {c0 : Cond} (C : kC p l e R s m args below meth c D tys A n cc own (c0 :: WS) ret) {X : kX} (hE : kEs X A s) {k index : Nat} (hk : k < 7) {i v : Int32} (hv : schr k i = some v) (hl : Cond.methodLink own index yJ0_charAt_5068e ∈ WS) (hR : 3 + 1 ≤ R.frames ∧ 8 + (2 + 11) + 64 ≤ R.locals) (hW : (st.map fun v => v.category).sum ≤ 8) (hd : decode cc pc = .ok (.invokevirtual index, 3)) (kk : kW p l e R s m args below meth c D A n ws lv Q (pc + 3) (.int v :: st)) : kW p l e R s m args below meth c D A n ws lv Q pc (.int i :: .ref (X.1 k) :: st) := by
  obtain ⟨hin, rfl⟩ := nnE hv
  exact kcallE_i C (r := _) (fun H locs ls hP hD hS hF hz => krunE C hE hk (cj_chr l D tys X H.size k i hk hin) (cwV 1 C.2.2.2.2.1 (gV hl wj_27 wj_28 wj_6 wj_29) rfl rfl rfl (by decide +kernel) hR) hS hF rfl rfl hW hd hz) kk
end K3
theorem absE {x v : Int32} (h : f_JM_abs0 x = some v) : (if 0 ≤ x then x else 0 - x) = v := by
  unfold f_JM_abs0 at h
  by_cases c : 0 ≤ x
  · rw [if_pos c] at h ⊢
    exact Option.some.inj h
  · rw [if_neg c] at h ⊢
    rw [Int32.zero_sub]
    exact Option.some.inj h
theorem absLE {x v : Int64} (h : f_JM_abs1 x = some v) : (if 0 < x then x else -x) = v := by
  unfold f_JM_abs1 lg_cmp at h
  by_cases c : 0 < x
  · rw [if_pos c]
    rw [if_pos (show x > 0 from c), if_pos (show (0 : Int32) ≤ 1 by decide)] at h
    exact Option.some.inj h
  · rw [if_neg c]
    by_cases c2 : x = 0
    · subst c2
      rw [if_neg (show ¬ (0 : Int64) > 0 by decide), if_pos rfl, if_pos (show (0 : Int32) ≤ 0 by decide)] at h
      rw [← Option.some.inj h]
      rfl
    · rw [if_neg (show ¬ x > 0 from c), if_neg c2, if_neg (show ¬ (0 : Int32) ≤ -1 by decide)] at h
      exact Option.some.inj h
section K3b
variable {p : Program} {l : Launch} {e : Env} {R : Room} {s : State} {m : MethodId} {args : Array Value} {below : List Frame} {meth : Method} {c : Code} {D : va_G} {tys : List (ClassId × FieldType)} {A : Nat → Prop} {n : Nat} {cc : ByteArray} {own : String} {Wd : List Cond} {ret : Option FieldType}
variable {ws : va_W} {lv : List (Nat × Value)} {Q : State → Prop} {pc : Nat} {st : List Value}
theorem k_mabs (C : kC p l e R s m args below meth c D tys A n cc own Wd ret) {index : Nat} {x v : Int32} (hv : f_JM_abs0 x = some v) (h1 : Cond.methodLink own index Lib.Math.abs.name ∈ Wd) (h2 : Cond.static Lib.Math.abs.name ∈ Wd) (h3 : Cond.initialized "java/lang/Math" ∈ Wd) (h4 : Cond.code Lib.Math.abs.name Lib.Math.abs.code 1 (some .int) ∈ Wd) (hf : 1 ≤ R.frames) (ho : (st.map fun v => v.category).sum + 13 ≤ R.locals) (hd : decode cc pc = .ok (.invokestatic index, 3))
    (kk : kW p l e R s m args below meth c D A n ws lv Q (pc + 3) (.int v :: st)) : kW p l e R s m args below meth c D A n ws lv Q pc (.int x :: st) := by
  obtain rfl := absE hv
  exact fun H locs ls hP hD hS hl => va_mabs C.1 C.2.1 (by rw [C.2.2.1]; exact hl.1.symm) C.2.2.2.1 (C.2.2.2.2.1 _ h1) (C.2.2.2.2.1 _ h2) (C.2.2.2.2.1 _ h3) (C.2.2.2.2.1 _ h4) hf ho (Nat.zero_le _) (Nat.zero_le _) hd (kk H locs ls hP hD hS hl)
theorem k_mabsL (C : kC p l e R s m args below meth c D tys A n cc own Wd ret) {index : Nat} {x v : Int64} (hv : f_JM_abs1 x = some v) (h1 : Cond.methodLink own index Lib.MathLoose.abs_long.x ∈ Wd) (h2 : Cond.static Lib.MathLoose.abs_long.x ∈ Wd) (h3 : Cond.initialized "java/lang/Math" ∈ Wd) (h4 : Cond.code Lib.MathLoose.abs_long.x Lib.MathLoose.abs_long.code 2 (some .long) ∈ Wd) (hf : 1 ≤ R.frames) (ho : (st.map fun v => v.category).sum + 13 ≤ R.locals) (hd : decode cc pc = .ok (.invokestatic index, 3))
    (kk : kW p l e R s m args below meth c D A n ws lv Q (pc + 3) (.long v :: st)) : kW p l e R s m args below meth c D A n ws lv Q pc (.long x :: st) := by
  obtain rfl := absLE hv
  exact fun H locs ls hP hD hS hl => va_mabs_long C.1 C.2.1 (by rw [C.2.2.1]; exact hl.1.symm) C.2.2.2.1 (C.2.2.2.2.1 _ h1) (C.2.2.2.2.1 _ h2) (C.2.2.2.2.1 _ h3) (C.2.2.2.2.1 _ h4) hf ho (Nat.zero_le _) (Nat.zero_le _) hd (kk H locs ls hP hD hS hl)
end K3b

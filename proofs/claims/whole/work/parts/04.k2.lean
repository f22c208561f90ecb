section K2
variable {p : Program} {l : Launch} {e : Env} {R : Room} {s : State} {m : MethodId} {args : Array Value} {below : List Frame} {meth : Method} {c : Code} {D : va_G} {tys : List (ClassId × FieldType)} {A : Nat → Prop} {n : Nat} {cc : ByteArray} {own : String} {Wd : List Cond} {ret : Option FieldType}
variable {ws : va_W} {lv : List (Nat × Value)} {Q : State → Prop} {pc : Nat} {st : List Value}
theorem k_ldcw (C : kC p l e R s m args below meth c D tys A n cc own Wd ret) {index : Nat} {v : Int32} (hw : Jvm.Cond.constant own index v ∈ Wd) (hd : decode cc pc = .ok (.ldc_w index, 3)) (kk : kW p l e R s m args below meth c D A n ws lv Q (pc + 3) (.int v :: st)) : kW p l e R s m args below meth c D A n ws lv Q pc st :=
  fun H locs ls hP hD hS hl => lv_ldcw C.1 C.2.1 C.2.2.2.1 (C.2.2.2.2.1 _ hw) hd (kk H locs ls hP hD hS hl)
theorem k_ldiv (C : kC p l e R s m args below meth c D tys A n cc own Wd ret) {x y v : Int64} (hd : decode cc pc = .ok (.ldiv, 1)) (hv : dvL x y = some v) (kk : kW p l e R s m args below meth c D A n ws lv Q (pc + 1) (.long v :: st)) : kW p l e R s m args below meth c D A n ws lv Q pc (.long y :: .long x :: st) := by
  obtain ⟨h0, rfl⟩ := nnE hv
  exact fun H locs ls hP hD hS hl => lv_ldiv C.1 C.2.1 hd h0 (kk H locs ls hP hD hS hl)
theorem cpyE {f g h : Nat → Int32} {n0 n1 : Nat} {sp dp k : Int32} (hv : cpy f g n0 n1 sp dp k = some h) : (¬ sp < 0 ∧ ¬ dp < 0 ∧ ¬ k < 0 ∧ sp.toNatClampNeg + k.toNatClampNeg ≤ n0 ∧ dp.toNatClampNeg + k.toNatClampNeg ≤ n1) ∧ va_cpy f g sp.toNatClampNeg dp.toNatClampNeg k.toNatClampNeg = h := by
  obtain ⟨h0, e⟩ := nnE hv
  refine ⟨⟨fun z => h0 (Or.inl z), fun z => h0 (Or.inr (Or.inl z)), fun z => h0 (Or.inr (Or.inr (Or.inl z))), ?_, ?_⟩, e⟩
  · exact Nat.not_lt.mp fun z => h0 (Or.inr (Or.inr (Or.inr (Or.inl z))))
  · exact Nat.not_lt.mp fun z => h0 (Or.inr (Or.inr (Or.inr (Or.inr z))))
theorem cpyLE {f g h : Nat → Int64} {n0 n1 : Nat} {sp dp k : Int32} (hv : cpyL f g n0 n1 sp dp k = some h) : (¬ sp < 0 ∧ ¬ dp < 0 ∧ ¬ k < 0 ∧ sp.toNatClampNeg + k.toNatClampNeg ≤ n0 ∧ dp.toNatClampNeg + k.toNatClampNeg ≤ n1) ∧ va_cpy f g sp.toNatClampNeg dp.toNatClampNeg k.toNatClampNeg = h := by
  obtain ⟨h0, e⟩ := nnE hv
  refine ⟨⟨fun z => h0 (Or.inl z), fun z => h0 (Or.inr (Or.inl z)), fun z => h0 (Or.inr (Or.inr (Or.inl z))), ?_, ?_⟩, e⟩
  · exact Nat.not_lt.mp fun z => h0 (Or.inr (Or.inr (Or.inr (Or.inl z))))
  · exact Nat.not_lt.mp fun z => h0 (Or.inr (Or.inr (Or.inr (Or.inr z))))
theorem k_copyi (C : kC p l e R s m args below meth c D tys A n cc own Wd ret) (q0 q1 t0 t1 : Nat) {a a0 : Nat} {c0 c1 : ClassId} {n0 n1 : Nat} {f g h : Nat → Int32} {ty : FieldType} {sp dp k : Int32} {ws' : va_W} {index : Nat}
    (w1 : Cond.methodLink own index arraycopyName ∈ Wd) (w2 : Cond.native arraycopyName ∈ Wd) (w3 : Cond.static arraycopyName ∈ Wd) (w4 : Cond.initialized "java/lang/System" ∈ Wd)
    (ha0 : ws[q0]? = some (a0, .inl (c0, n0, .inl f))) (ha1 : ws[q1]? = some (a, .inl (c1, n1, .inl g))) (ht0 : tys[t0]? = some (c0, ty)) (ht1 : tys[t1]? = some (c1, ty)) (hprim : refKind ty = false)
    (hfit : ∀ i, i < k.toNatClampNeg → fits ty (.int (f (sp.toNatClampNeg + i))) = true) (hv : cpy f g n0 n1 sp dp k = some h) (hw : ws.set q1 (a, .inl (c1, n1, .inl h)) = ws') (hf : 1 ≤ R.frames) (ho : (st.map fun v => v.category).sum + (nativeFrameWords "java/lang/System" "arraycopy" 5 + 11) ≤ R.locals) (hd : decode cc pc = .ok (.invokestatic index, 3))
    (kk : kW p l e R s m args below meth c D A n ws' lv Q (pc + 3) st) : kW p l e R s m args below meth c D A n ws lv Q pc (.int k :: .int dp :: .ref a :: .int sp :: .ref a0 :: st) := by
  obtain ⟨⟨h1, h2, h3, h4, h5⟩, rfl⟩ := cpyE hv
  subst hw
  exact fun H locs ls hP hD hS hl => va_copyi C.1 C.2.1 (by rw [C.2.2.1]; exact hl.1.symm) C.2.2.2.1 (C.2.2.2.2.1 _ w1) (C.2.2.2.2.1 _ w2) (C.2.2.2.2.1 _ w3) (C.2.2.2.2.1 _ w4) C.2.2.2.2.2.1 hP hD hS q0 q1 t0 t1 ha0 ha1 ht0 ht1 hprim h1 h2 h3 h4 h5 hfit hf ho hd (fun H1 locs1 hP hD hS => kk H1 locs1 ls hP hD hS hl)
theorem k_copyl (C : kC p l e R s m args below meth c D tys A n cc own Wd ret) (q0 q1 t0 t1 : Nat) {a a0 : Nat} {c0 c1 : ClassId} {n0 n1 : Nat} {f g h : Nat → Int64} {ty : FieldType} {sp dp k : Int32} {ws' : va_W} {index : Nat}
    (w1 : Cond.methodLink own index arraycopyName ∈ Wd) (w2 : Cond.native arraycopyName ∈ Wd) (w3 : Cond.static arraycopyName ∈ Wd) (w4 : Cond.initialized "java/lang/System" ∈ Wd)
    (ha0 : ws[q0]? = some (a0, .inl (c0, n0, .inr (.inl f)))) (ha1 : ws[q1]? = some (a, .inl (c1, n1, .inr (.inl g)))) (ht0 : tys[t0]? = some (c0, ty)) (ht1 : tys[t1]? = some (c1, ty)) (hprim : refKind ty = false)
    (hfit : ∀ i, i < k.toNatClampNeg → fits ty (.long (f (sp.toNatClampNeg + i))) = true) (hv : cpyL f g n0 n1 sp dp k = some h) (hw : ws.set q1 (a, .inl (c1, n1, .inr (.inl h))) = ws') (hf : 1 ≤ R.frames) (ho : (st.map fun v => v.category).sum + (nativeFrameWords "java/lang/System" "arraycopy" 5 + 11) ≤ R.locals) (hd : decode cc pc = .ok (.invokestatic index, 3))
    (kk : kW p l e R s m args below meth c D A n ws' lv Q (pc + 3) st) : kW p l e R s m args below meth c D A n ws lv Q pc (.int k :: .int dp :: .ref a :: .int sp :: .ref a0 :: st) := by
  obtain ⟨⟨h1, h2, h3, h4, h5⟩, rfl⟩ := cpyLE hv
  subst hw
  exact fun H locs ls hP hD hS hl => va_copyl C.1 C.2.1 (by rw [C.2.2.1]; exact hl.1.symm) C.2.2.2.1 (C.2.2.2.2.1 _ w1) (C.2.2.2.2.1 _ w2) (C.2.2.2.2.1 _ w3) (C.2.2.2.2.1 _ w4) C.2.2.2.2.2.1 hP hD hS q0 q1 t0 t1 ha0 ha1 ht0 ht1 hprim h1 h2 h3 h4 h5 hfit hf ho hd (fun H1 locs1 hP hD hS => kk H1 locs1 ls hP hD hS hl)
/-! what stands outside the cells: String constants, a static row -/
abbrev kX : Type := (Nat → Nat) × (Nat → Nat) × Nat × Value
def sLen : List Nat := [4, 4, 4, 6, 5, 4, 3]
def sByt : List (List Int32) := [[102, 111, 111, 116], [114, 97, 107, 101], [115, 105, 100, 101], [103, 114, 97, 118, 101, 108], [112, 108, 97, 110, 107], [114, 97, 105, 110], [101, 97, 114]]
def kAbove (j : Nat) : Int32 := [-1, 0, 0, 1, 2, 0].getD j 0
def kRefs : List (String × Nat × String × Nat) := [(RX3, 60, "foot", 0), (RX3, 71, "rake", 1), (RX3, 79, "side", 2), (RX3, 84, "gravel", 3), (RX3, 89, "plank", 4), (RX3, 94, "rain", 5), (RX3, 99, "ear", 6), (RX5, 175, "foot", 0), (RX5, 170, "rake", 1), (RX5, 158, "side", 2), (RX5, 167, "gravel", 3), (RX5, 168, "plank", 4), (RX5, 177, "rain", 5), (RX5, 178, "ear", 6)]
def kNest : List (String × Nat × MethodName) := [(RX2, 22, yX4_isShelf), (RX2, 33, yX4_isWithin), (RX2, 44, yX4_isPart), (RX0, 56, yX4_isWithin), (RX3, 19, yX4_isWithin), (RX1, 48, yX4_isWithin)]
def slen (k : Nat) : Int32 := Int32.ofNat (sLen.getD k 0)
def schr (k : Nat) (i : Int32) : Option Int32 := if i < 0 ∨ sLen.getD k 0 ≤ i.toNatClampNeg then none else some (i2c (((sByt.getD k []).getD i.toNatClampNeg 0) &&& 255))
def kEs (X : kX) (A : Nat → Prop) (s : State) : Prop :=
  vk_S 7 sLen sByt X.1 X.2.1 A s s.heap ∧ (∀ q ∈ kRefs, vk_R q.1 q.2.1 q.2.2.1 (X.1 q.2.2.2) s) ∧ va_Z RX4 "KIND_ABOVE" "[I" (.ref X.2.2.1) A s s.heap ∧ va_T .int X.2.2.1 6 (fun j => .int (kAbove j)) A s s.heap ∧ va_Z "java/lang/String" "COMPACT_STRINGS" "Z" (.int 1) A s s.heap ∧ va_Z "jdk/internal/util/Preconditions" "SIOOBE_FORMATTER" "Ljava/util/function/BiFunction;" X.2.2.2 A s s.heap ∧ X.2.2.2.category = 1 ∧ ∀ q ∈ kNest, va_Nw (.methodLinkNest q.1 q.2.1 q.2.2 RX4) s
theorem kEs_call {X : kX} {H : Heap} {locs : List Loc} {B : Nat → Prop} (hE : kEs X A s) (hS : va_S A s.heap H locs) (hB : ∀ q, B q → A q) : kEnv s (kEs X B) H := by
  refine ⟨fun U g mk a h => ?_, fun U hU hW => ?_⟩
  · obtain ⟨h1, h2, h3, h4, h5, h6, h7, h8⟩ := h
    have ha : U.vm.Alike (U.calling g mk a).vm := Vm.Alike.refl U.vm
    exact ⟨vk_S.moved ha h1, fun q hq => vk_R.same (u := U) rfl (h2 q hq), va_Z.moved ha h3, va_T.moved ha h4, va_Z.moved ha h5, va_Z.moved ha h6, h7, fun q hq => va_Nw.same (u := U) rfl rfl (h8 q hq)⟩
  · obtain ⟨h1, h2, h3, h4, h5, h6, h7, h8⟩ := hE
    have ha := hW.alike
    unfold kEs
    rw [hU]
    exact ⟨((h1.kept hS.2.1).narrow hB).moved ha, fun q hq => vk_R.warm hW (h2 q hq), va_Z.moved ha ((h3.kept hS.2.1).narrow hB), va_T.moved ha ((h4.kept hS.2.1).narrow hB), va_Z.moved ha ((h5.kept hS.2.1).narrow hB), va_Z.moved ha ((h6.kept hS.2.1).narrow hB), h7, fun q hq => va_Nw.warmM hW (h8 q hq)⟩
theorem k_ldcS (C : kC p l e R s m args below meth c D tys A n cc own Wd ret) {X : kX} (hE : kEs X A s) {index k : Nat} {tx : String} (hr : (own, index, tx, k) ∈ kRefs) (hd : decode cc pc = .ok (.ldc index, 2)) (kk : kW p l e R s m args below meth c D A n ws lv Q (pc + 2) (.ref (X.1 k) :: st)) : kW p l e R s m args below meth c D A n ws lv Q pc st :=
  fun H locs ls hP hD hS hl => va_ldcS C.1 C.2.1 C.2.2.2.1 (hE.2.1 _ hr) hd (kk H locs ls hP hD hS hl)
theorem k_getsT (C : kC p l e R s m args below meth c D tys A n cc own Wd ret) {X : kX} (hE : kEs X A s) {index : Nat} (hlink : Cond.fieldLink own index RX4 "KIND_ABOVE" "[I" ∈ Wd) (hd : decode cc pc = .ok (.getstatic index, 3)) (kk : kW p l e R s m args below meth c D A n ws lv Q (pc + 3) (.ref X.2.2.1 :: st)) : kW p l e R s m args below meth c D A n ws lv Q pc st :=
  fun H locs ls hP hD hS hl => va_gets C.1 C.2.1 hE.2.2.1 hS C.2.2.2.1 (C.2.2.2.2.1 _ hlink) (fun _ h => h) hd (kk H locs ls hP hD hS hl)
theorem k_tald (C : kC p l e R s m args below meth c D tys A n cc own Wd ret) {X : kX} (hE : kEs X A s) {i v : Int32} (hv : rd kAbove 6 i = some v) (hd : decode cc pc = .ok (.iaload, 1)) (kk : kW p l e R s m args below meth c D A n ws lv Q (pc + 1) (.int v :: st)) : kW p l e R s m args below meth c D A n ws lv Q pc (.int i :: .ref X.2.2.1 :: st) := by
  obtain ⟨hin, rfl⟩ := nnE hv
  exact fun H locs ls hP hD hS hl => va_ti C.1 C.2.1 hE.2.2.2.1 hS hin rfl hd (kk H locs ls hP hD hS hl)
theorem k_getsC (C : kC p l e R s m args below meth c D tys A n cc own Wd ret) {X : kX} (hE : kEs X A s) {index : Nat} (hlink : Cond.fieldLink own index "java/lang/String" "COMPACT_STRINGS" "Z" ∈ Wd) (hd : decode cc pc = .ok (.getstatic index, 3)) (kk : kW p l e R s m args below meth c D A n ws lv Q (pc + 3) (.int 1 :: st)) : kW p l e R s m args below meth c D A n ws lv Q pc st :=
  fun H locs ls hP hD hS hl => va_gets C.1 C.2.1 hE.2.2.2.2.1 hS C.2.2.2.1 (C.2.2.2.2.1 _ hlink) (fun _ h => h) hd (kk H locs ls hP hD hS hl)
theorem k_getsF (C : kC p l e R s m args below meth c D tys A n cc own Wd ret) {X : kX} (hE : kEs X A s) {index : Nat} (hlink : Cond.fieldLink own index "jdk/internal/util/Preconditions" "SIOOBE_FORMATTER" "Ljava/util/function/BiFunction;" ∈ Wd) (hd : decode cc pc = .ok (.getstatic index, 3)) (kk : kW p l e R s m args below meth c D A n ws lv Q (pc + 3) (X.2.2.2 :: st)) : kW p l e R s m args below meth c D A n ws lv Q pc st :=
  fun H locs ls hP hD hS hl => va_gets C.1 C.2.1 hE.2.2.2.2.2.1 hS C.2.2.2.1 (C.2.2.2.2.1 _ hlink) (fun _ h => h) hd (kk H locs ls hP hD hS hl)
theorem k_coder (C : kC p l e R s m args below meth c D tys A n cc own Wd ret) {X : kX} (hE : kEs X A s) {k index : Nat} (hk : k < 7) (hlink : Cond.fieldLink own index "java/lang/String" "coder" "B" ∈ Wd) (hd : decode cc pc = .ok (.getfield index, 3)) (kk : kW p l e R s m args below meth c D A n ws lv Q (pc + 3) (.int 0 :: st)) : kW p l e R s m args below meth c D A n ws lv Q pc (.ref (X.1 k) :: st) :=
  fun H locs ls hP hD hS hl => va_getX (N := 7) (v := fun _ => .int 0) C.1 C.2.1 (fun i hi => (hE.1.1 i hi).2.1) hk hS C.2.2.2.1 (C.2.2.2.2.1 _ hlink) (fun _ h => h) hd (kk H locs ls hP hD hS hl)
theorem k_value (C : kC p l e R s m args below meth c D tys A n cc own Wd ret) {X : kX} (hE : kEs X A s) {k index : Nat} (hk : k < 7) (hlink : Cond.fieldLink own index "java/lang/String" "value" "[B" ∈ Wd) (hd : decode cc pc = .ok (.getfield index, 3)) (kk : kW p l e R s m args below meth c D A n ws lv Q (pc + 3) (.ref (X.2.1 k) :: st)) : kW p l e R s m args below meth c D A n ws lv Q pc (.ref (X.1 k) :: st) :=
  fun H locs ls hP hD hS hl => va_getX (N := 7) (v := fun i => .ref (X.2.1 i)) C.1 C.2.1 (fun i hi => (hE.1.1 i hi).2.2.1) hk hS C.2.2.2.1 (C.2.2.2.2.1 _ hlink) (fun _ h => h) hd (kk H locs ls hP hD hS hl)
theorem k_vlen (C : kC p l e R s m args below meth c D tys A n cc own Wd ret) {X : kX} (hE : kEs X A s) {k : Nat} (hk : k < 7) (hd : decode cc pc = .ok (.arraylength, 1)) (kk : kW p l e R s m args below meth c D A n ws lv Q (pc + 1) (.int (slen k) :: st)) : kW p l e R s m args below meth c D A n ws lv Q pc (.ref (X.2.1 k) :: st) :=
  fun H locs ls hP hD hS hl => va_tlen C.1 C.2.1 (hE.1.1 k hk).2.2.2 hS rfl hd (kk H locs ls hP hD hS hl)
end K2

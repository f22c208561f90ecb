/-! pure operations of the mirrors -/
def FUEL : Nat := 100000
def iter {σ ρ : Type} (body : σ → Option (σ ⊕ ρ)) : Nat → σ → Option ρ
  | 0, _ => none
  | n + 1, s => (body s).bind fun x => Sum.elim (fun s' => iter body n s') some x
theorem bindE {α β : Type} {o : Option α} {f : α → Option β} {b : β} (h : o.bind f = some b) : ∃ a, o = some a ∧ f a = some b := Option.bind_eq_some_iff.mp h
theorem ifT {α : Type} {P : Prop} [Decidable P] {a b : α} {x : α} (c : P) (h : (if P then a else b) = x) : a = x := (if_pos c).symm.trans h
theorem ifF {α : Type} {P : Prop} [Decidable P] {a b : α} {x : α} (c : ¬ P) (h : (if P then a else b) = x) : b = x := (if_neg c).symm.trans h
def rd (f : Nat → Int32) (n : Nat) (i : Int32) : Option Int32 := if i < 0 ∨ n ≤ i.toNatClampNeg then none else some (f i.toNatClampNeg)
def rdL (f : Nat → Int64) (n : Nat) (i : Int32) : Option Int64 := if i < 0 ∨ n ≤ i.toNatClampNeg then none else some (f i.toNatClampNeg)
def wr (f : Nat → Int32) (n : Nat) (i x : Int32) : Option (Nat → Int32) := if i < 0 ∨ n ≤ i.toNatClampNeg then none else some (upd f i.toNatClampNeg x)
def wrL (f : Nat → Int64) (n : Nat) (i : Int32) (x : Int64) : Option (Nat → Int64) := if i < 0 ∨ n ≤ i.toNatClampNeg then none else some (vp_updL f i.toNatClampNeg x)
def dv (x y : Int32) : Option Int32 := if y = 0 then none else some (x / y)
def rm (x y : Int32) : Option Int32 := if y = 0 then none else some (x - x / y * y)
def dvL (x y : Int64) : Option Int64 := if y = 0 then none else some (x / y)
def rmL (x y : Int64) : Option Int64 := if y = 0 then none else some (x - x / y * y)
def zr (x : Int32) : Option Int32 := if x = 0 ∨ x = 1 then some x else none
def cpy (f g : Nat → Int32) (n0 n1 : Nat) (sp dp n : Int32) : Option (Nat → Int32) :=
  if sp < 0 ∨ dp < 0 ∨ n < 0 ∨ n0 < sp.toNatClampNeg + n.toNatClampNeg ∨ n1 < dp.toNatClampNeg + n.toNatClampNeg then none else some (va_cpy f g sp.toNatClampNeg dp.toNatClampNeg n.toNatClampNeg)
def cpyL (f g : Nat → Int64) (n0 n1 : Nat) (sp dp n : Int32) : Option (Nat → Int64) :=
  if sp < 0 ∨ dp < 0 ∨ n < 0 ∨ n0 < sp.toNatClampNeg + n.toNatClampNeg ∨ n1 < dp.toNatClampNeg + n.toNatClampNeg then none else some (va_cpy f g sp.toNatClampNeg dp.toNatClampNeg n.toNatClampNeg)
abbrev ushr (x y : Int32) : Int32 := (x.toUInt32 >>> (y.toUInt32 &&& Int32.toUInt32 31)).toInt32
abbrev ushrL (x : Int64) (y : Int32) : Int64 := (x.toUInt64 >>> (y.toInt64.toUInt64 &&& Int64.toUInt64 63)).toInt64
abbrev i2b (x : Int32) : Int32 := x.toInt8.toInt32
abbrev i2s (x : Int32) : Int32 := x.toInt16.toInt32
abbrev i2c (x : Int32) : Int32 := (x.toUInt32 % 65536).toInt32
abbrev imax (x y : Int32) : Int32 := if x < y then y else x
abbrev imin (x y : Int32) : Int32 := if y < x then y else x
abbrev iabs (x : Int32) : Int32 := if 0 ≤ x then x else 0 - x
theorem nnE {α : Type} {P : Prop} [Decidable P] {a : α} {x : α} (h : (if P then none else some a) = some x) : ¬ P ∧ a = x := by
  by_cases c : P
  · rw [if_pos c] at h; cases h
  · rw [if_neg c] at h; exact ⟨c, Option.some.inj h⟩
theorem iter_W {σ ρ : Type} {body : σ → Option (σ ⊕ ρ)} {T : σ → Prop} {r : ρ} (step : ∀ s x, body s = some x → (∀ s', x = .inl s' → T s') → (x = .inr r → True) → (∀ r', x = .inr r' → r' = r) → T s) : ∀ n s, iter body n s = some r → T s := by
  intro n
  induction n with
  | zero => intro s h; cases h
  | succ n ih =>
    intro s h
    obtain ⟨x, hx, h⟩ := bindE h
    refine step s x hx ?_ (fun _ => trivial) ?_
    · intro s' e; subst e; exact ih s' h
    · intro r' e; subst e; exact Option.some.inj h
/-! the state of a walk -/
section KK
variable {p : Program} {l : Launch} {e : Env} {R : Room} {s : State} {m : MethodId} {args : Array Value} {below : List Frame} {meth : Method} {c : Code} {D : va_G} {tys : List (ClassId × FieldType)} {A : Nat → Prop} {n : Nat} {cc : ByteArray} {own : String} {Wd : List Cond} {ret : Option FieldType}
variable {ws : va_W} {lv : List (Nat × Value)} {Q : State → Prop} {pc : Nat} {st : List Value}
def kC (p : Program) (l : Launch) (e : Env) (R : Room) (s : State) (m : MethodId) (args : Array Value) (below : List Frame) (meth : Method) (c : Code) (D : va_G) (tys : List (ClassId × FieldType)) (A : Nat → Prop) (n : Nat) (cc : ByteArray) (own : String) (Wd : List Cond) (ret : Option FieldType) : Prop :=
  p.tables.exec = Jvm.exec ∧ c.code = cc ∧ c.maxLocals = n ∧ s.vm.findClass own = some m.cls ∧ (∀ w ∈ Wd, w.before args s = true) ∧ va_K D classes tys s ∧ (∀ q, s.heap.size ≤ q → A q) ∧ meth.locks = false ∧ meth.sig.returnType = ret
def kW (p : Program) (l : Launch) (e : Env) (R : Room) (s : State) (m : MethodId) (args : Array Value) (below : List Frame) (meth : Method) (c : Code) (D : va_G) (A : Nat → Prop) (n : Nat) (ws : va_W) (lv : List (Nat × Value)) (Q : State → Prop) (pc : Nat) (st : List Value) : Prop :=
  ∀ (H : Heap) (locs : List Loc) (ls : Array Slot), va_P D classes ws H → va_D A ws → va_S A s.heap H locs → lv_has ls n lv → W p l e R s m args below meth c H locs 0 0 Q (F0 m pc ls st)

theorem k_iconst (C : kC p l e R s m args below meth c D tys A n cc own Wd ret) {k : Int} {v : Int32} (hd : decode cc pc = .ok (.iconst k, 1)) (hv : Int32.ofInt k = v) (kk : kW p l e R s m args below meth c D A n ws lv Q (pc + 1) (.int v :: st)) : kW p l e R s m args below meth c D A n ws lv Q pc (st) :=
  fun H locs ls hP hD hS hl => lv_iconst C.1 C.2.1 hd hv (kk H locs ls hP hD hS hl)
theorem k_bipush (C : kC p l e R s m args below meth c D tys A n cc own Wd ret) {k : Int} {v : Int32} (hd : decode cc pc = .ok (.bipush k, 2)) (hv : (Int8.ofInt k).toInt32 = v) (kk : kW p l e R s m args below meth c D A n ws lv Q (pc + 2) (.int v :: st)) : kW p l e R s m args below meth c D A n ws lv Q pc (st) :=
  fun H locs ls hP hD hS hl => lv_bipush C.1 C.2.1 hd hv (kk H locs ls hP hD hS hl)
theorem k_sipush (C : kC p l e R s m args below meth c D tys A n cc own Wd ret) {k : Int} {v : Int32} (hd : decode cc pc = .ok (.sipush k, 3)) (hv : (Int16.ofInt k).toInt32 = v) (kk : kW p l e R s m args below meth c D A n ws lv Q (pc + 3) (.int v :: st)) : kW p l e R s m args below meth c D A n ws lv Q pc (st) :=
  fun H locs ls hP hD hS hl => lv_sipush C.1 C.2.1 hd hv (kk H locs ls hP hD hS hl)
theorem k_lconst (C : kC p l e R s m args below meth c D tys A n cc own Wd ret) {k : Fin 2} {v : Int64} (hd : decode cc pc = .ok (.lconst k, 1)) (hv : Int64.ofNat (k : Nat) = v) (kk : kW p l e R s m args below meth c D A n ws lv Q (pc + 1) (.long v :: st)) : kW p l e R s m args below meth c D A n ws lv Q pc (st) :=
  fun H locs ls hP hD hS hl => lv_lconst C.1 C.2.1 hd hv (kk H locs ls hP hD hS hl)
theorem k_iload_n (C : kC p l e R s m args below meth c D tys A n cc own Wd ret) {k : Fin 4} {i : Nat} {x : Int32} (hd : decode cc pc = .ok (.iload_n k, 1)) (j : Nat) (hi : (k : Nat) = i) (hj : lv[j]? = some (i, .int x)) (kk : kW p l e R s m args below meth c D A n ws lv Q (pc + 1) (.int x :: st)) : kW p l e R s m args below meth c D A n ws lv Q pc (st) :=
  fun H locs ls hP hD hS hl => lv_iload_n C.1 C.2.1 hd hi (lv_at hl j hj) (kk H locs ls hP hD hS hl)
theorem k_iload (C : kC p l e R s m args below meth c D tys A n cc own Wd ret) {i : Nat} {x : Int32} (hd : decode cc pc = .ok (.iload i, 2)) (j : Nat) (hj : lv[j]? = some (i, .int x)) (kk : kW p l e R s m args below meth c D A n ws lv Q (pc + 2) (.int x :: st)) : kW p l e R s m args below meth c D A n ws lv Q pc (st) :=
  fun H locs ls hP hD hS hl => lv_iload C.1 C.2.1 hd (lv_at hl j hj) (kk H locs ls hP hD hS hl)
theorem k_istore_n (C : kC p l e R s m args below meth c D tys A n cc own Wd ret) {k : Fin 4} {i : Nat} {x : Int32} {lv' : List (Nat × Value)} (hd : decode cc pc = .ok (.istore_n k, 1)) (hi : (k : Nat) = i) (hn : i < n) (hl' : (i, Value.int x) :: lv.filter (fun q => !(q.1 == i) && !(q.1 + 1 == i && q.2.category == 2)) = lv') (kk : kW p l e R s m args below meth c D A n ws lv' Q (pc + 1) st) : kW p l e R s m args below meth c D A n ws lv Q pc (.int x :: st) :=
  fun H locs ls hP hD hS hl => lv_istore_n C.1 C.2.1 hd hi hl hn hl' (fun ls hl => kk H locs ls hP hD hS hl)
theorem k_istore (C : kC p l e R s m args below meth c D tys A n cc own Wd ret) {i : Nat} {x : Int32} {lv' : List (Nat × Value)} (hd : decode cc pc = .ok (.istore i, 2)) (hn : i < n) (hl' : (i, Value.int x) :: lv.filter (fun q => !(q.1 == i) && !(q.1 + 1 == i && q.2.category == 2)) = lv') (kk : kW p l e R s m args below meth c D A n ws lv' Q (pc + 2) st) : kW p l e R s m args below meth c D A n ws lv Q pc (.int x :: st) :=
  fun H locs ls hP hD hS hl => lv_istore C.1 C.2.1 hd hl hn hl' (fun ls hl => kk H locs ls hP hD hS hl)
theorem k_lload_n (C : kC p l e R s m args below meth c D tys A n cc own Wd ret) {k : Fin 4} {i : Nat} {x : Int64} (hd : decode cc pc = .ok (.lload_n k, 1)) (j : Nat) (hi : (k : Nat) = i) (hj : lv[j]? = some (i, .long x)) (kk : kW p l e R s m args below meth c D A n ws lv Q (pc + 1) (.long x :: st)) : kW p l e R s m args below meth c D A n ws lv Q pc (st) :=
  fun H locs ls hP hD hS hl => lv_lload_n C.1 C.2.1 hd hi (lv_at hl j hj) (kk H locs ls hP hD hS hl)
theorem k_lload (C : kC p l e R s m args below meth c D tys A n cc own Wd ret) {i : Nat} {x : Int64} (hd : decode cc pc = .ok (.lload i, 2)) (j : Nat) (hj : lv[j]? = some (i, .long x)) (kk : kW p l e R s m args below meth c D A n ws lv Q (pc + 2) (.long x :: st)) : kW p l e R s m args below meth c D A n ws lv Q pc (st) :=
  fun H locs ls hP hD hS hl => lv_lload C.1 C.2.1 hd (lv_at hl j hj) (kk H locs ls hP hD hS hl)
theorem k_lstore_n (C : kC p l e R s m args below meth c D tys A n cc own Wd ret) {k : Fin 4} {i : Nat} {x : Int64} {lv' : List (Nat × Value)} (hd : decode cc pc = .ok (.lstore_n k, 1)) (hi : (k : Nat) = i) (hn : i + 1 < n) (hl' : (i, Value.long x) :: lv.filter (fun q => !(q.1 == i) && (!(q.1 == i + 1) && !(q.1 + 1 == i && q.2.category == 2))) = lv') (kk : kW p l e R s m args below meth c D A n ws lv' Q (pc + 1) st) : kW p l e R s m args below meth c D A n ws lv Q pc (.long x :: st) :=
  fun H locs ls hP hD hS hl => lv_lstore_n C.1 C.2.1 hd hi hl hn hl' (fun ls hl => kk H locs ls hP hD hS hl)
theorem k_lstore (C : kC p l e R s m args below meth c D tys A n cc own Wd ret) {i : Nat} {x : Int64} {lv' : List (Nat × Value)} (hd : decode cc pc = .ok (.lstore i, 2)) (hn : i + 1 < n) (hl' : (i, Value.long x) :: lv.filter (fun q => !(q.1 == i) && (!(q.1 == i + 1) && !(q.1 + 1 == i && q.2.category == 2))) = lv') (kk : kW p l e R s m args below meth c D A n ws lv' Q (pc + 2) st) : kW p l e R s m args below meth c D A n ws lv Q pc (.long x :: st) :=
  fun H locs ls hP hD hS hl => lv_lstore C.1 C.2.1 hd hl hn hl' (fun ls hl => kk H locs ls hP hD hS hl)
theorem k_aload_n (C : kC p l e R s m args below meth c D tys A n cc own Wd ret) {k : Fin 4} {i : Nat} {x : Nat} (hd : decode cc pc = .ok (.aload_n k, 1)) (j : Nat) (hi : (k : Nat) = i) (hj : lv[j]? = some (i, .ref x)) (kk : kW p l e R s m args below meth c D A n ws lv Q (pc + 1) (.ref x :: st)) : kW p l e R s m args below meth c D A n ws lv Q pc (st) :=
  fun H locs ls hP hD hS hl => lv_aload_n C.1 C.2.1 hd hi (lv_at hl j hj) (kk H locs ls hP hD hS hl)
theorem k_aload (C : kC p l e R s m args below meth c D tys A n cc own Wd ret) {i : Nat} {x : Nat} (hd : decode cc pc = .ok (.aload i, 2)) (j : Nat) (hj : lv[j]? = some (i, .ref x)) (kk : kW p l e R s m args below meth c D A n ws lv Q (pc + 2) (.ref x :: st)) : kW p l e R s m args below meth c D A n ws lv Q pc (st) :=
  fun H locs ls hP hD hS hl => lv_aload C.1 C.2.1 hd (lv_at hl j hj) (kk H locs ls hP hD hS hl)
theorem k_astore_n (C : kC p l e R s m args below meth c D tys A n cc own Wd ret) {k : Fin 4} {i : Nat} {x : Nat} {lv' : List (Nat × Value)} (hd : decode cc pc = .ok (.astore_n k, 1)) (hi : (k : Nat) = i) (hn : i < n) (hl' : (i, Value.ref x) :: lv.filter (fun q => !(q.1 == i) && !(q.1 + 1 == i && q.2.category == 2)) = lv') (kk : kW p l e R s m args below meth c D A n ws lv' Q (pc + 1) st) : kW p l e R s m args below meth c D A n ws lv Q pc (.ref x :: st) :=
  fun H locs ls hP hD hS hl => lv_astore_n C.1 C.2.1 hd hi hl hn hl' (fun ls hl => kk H locs ls hP hD hS hl)
theorem k_astore (C : kC p l e R s m args below meth c D tys A n cc own Wd ret) {i : Nat} {x : Nat} {lv' : List (Nat × Value)} (hd : decode cc pc = .ok (.astore i, 2)) (hn : i < n) (hl' : (i, Value.ref x) :: lv.filter (fun q => !(q.1 == i) && !(q.1 + 1 == i && q.2.category == 2)) = lv') (kk : kW p l e R s m args below meth c D A n ws lv' Q (pc + 2) st) : kW p l e R s m args below meth c D A n ws lv Q pc (.ref x :: st) :=
  fun H locs ls hP hD hS hl => lv_astore C.1 C.2.1 hd hl hn hl' (fun ls hl => kk H locs ls hP hD hS hl)
theorem k_iinc (C : kC p l e R s m args below meth c D tys A n cc own Wd ret) {i : Nat} {k : Int} {x v : Int32} {lv' : List (Nat × Value)} (hd : decode cc pc = .ok (.iinc i k, 3)) (j : Nat) (hj : lv[j]? = some (i, .int x)) (hv : x + Int32.ofInt k = v) (hn : i < n) (hl' : (i, Value.int v) :: lv.filter (fun q => !(q.1 == i) && !(q.1 + 1 == i && q.2.category == 2)) = lv') (kk : kW p l e R s m args below meth c D A n ws lv' Q (pc + 3) st) : kW p l e R s m args below meth c D A n ws lv Q pc st :=
  fun H locs ls hP hD hS hl => lv_iinc C.1 C.2.1 hd hl hj hv hn hl' (fun ls hl => kk H locs ls hP hD hS hl)
theorem k_iadd (C : kC p l e R s m args below meth c D tys A n cc own Wd ret) {x y : Int32} (hd : decode cc pc = .ok (.iadd, 1))  (kk : kW p l e R s m args below meth c D A n ws lv Q (pc + 1) (.int (x + y) :: st)) : kW p l e R s m args below meth c D A n ws lv Q pc (.int y :: .int x :: st) :=
  fun H locs ls hP hD hS hl => lv_iadd C.1 C.2.1 hd  (kk H locs ls hP hD hS hl)
theorem k_isub (C : kC p l e R s m args below meth c D tys A n cc own Wd ret) {x y : Int32} (hd : decode cc pc = .ok (.isub, 1))  (kk : kW p l e R s m args below meth c D A n ws lv Q (pc + 1) (.int (x - y) :: st)) : kW p l e R s m args below meth c D A n ws lv Q pc (.int y :: .int x :: st) :=
  fun H locs ls hP hD hS hl => lv_isub C.1 C.2.1 hd  (kk H locs ls hP hD hS hl)
theorem k_imul (C : kC p l e R s m args below meth c D tys A n cc own Wd ret) {x y : Int32} (hd : decode cc pc = .ok (.imul, 1))  (kk : kW p l e R s m args below meth c D A n ws lv Q (pc + 1) (.int (x * y) :: st)) : kW p l e R s m args below meth c D A n ws lv Q pc (.int y :: .int x :: st) :=
  fun H locs ls hP hD hS hl => lv_imul C.1 C.2.1 hd  (kk H locs ls hP hD hS hl)
theorem k_iand (C : kC p l e R s m args below meth c D tys A n cc own Wd ret) {x y : Int32} (hd : decode cc pc = .ok (.iand, 1))  (kk : kW p l e R s m args below meth c D A n ws lv Q (pc + 1) (.int (x &&& y) :: st)) : kW p l e R s m args below meth c D A n ws lv Q pc (.int y :: .int x :: st) :=
  fun H locs ls hP hD hS hl => lv_iand C.1 C.2.1 hd  (kk H locs ls hP hD hS hl)
theorem k_ior (C : kC p l e R s m args below meth c D tys A n cc own Wd ret) {x y : Int32} (hd : decode cc pc = .ok (.ior, 1))  (kk : kW p l e R s m args below meth c D A n ws lv Q (pc + 1) (.int (x ||| y) :: st)) : kW p l e R s m args below meth c D A n ws lv Q pc (.int y :: .int x :: st) :=
  fun H locs ls hP hD hS hl => lv_ior C.1 C.2.1 hd  (kk H locs ls hP hD hS hl)
theorem k_ixor (C : kC p l e R s m args below meth c D tys A n cc own Wd ret) {x y : Int32} (hd : decode cc pc = .ok (.ixor, 1))  (kk : kW p l e R s m args below meth c D A n ws lv Q (pc + 1) (.int (x ^^^ y) :: st)) : kW p l e R s m args below meth c D A n ws lv Q pc (.int y :: .int x :: st) :=
  fun H locs ls hP hD hS hl => lv_ixor C.1 C.2.1 hd  (kk H locs ls hP hD hS hl)
theorem k_ishl (C : kC p l e R s m args below meth c D tys A n cc own Wd ret) {x y : Int32} (hd : decode cc pc = .ok (.ishl, 1))  (kk : kW p l e R s m args below meth c D A n ws lv Q (pc + 1) (.int (x <<< (y &&& 31)) :: st)) : kW p l e R s m args below meth c D A n ws lv Q pc (.int y :: .int x :: st) :=
  fun H locs ls hP hD hS hl => lv_ishl C.1 C.2.1 hd  (kk H locs ls hP hD hS hl)
theorem k_ishr (C : kC p l e R s m args below meth c D tys A n cc own Wd ret) {x y : Int32} (hd : decode cc pc = .ok (.ishr, 1))  (kk : kW p l e R s m args below meth c D A n ws lv Q (pc + 1) (.int (x >>> (y &&& 31)) :: st)) : kW p l e R s m args below meth c D A n ws lv Q pc (.int y :: .int x :: st) :=
  fun H locs ls hP hD hS hl => lv_ishr C.1 C.2.1 hd  (kk H locs ls hP hD hS hl)
theorem k_ladd (C : kC p l e R s m args below meth c D tys A n cc own Wd ret) {x y : Int64} (hd : decode cc pc = .ok (.ladd, 1))  (kk : kW p l e R s m args below meth c D A n ws lv Q (pc + 1) (.long (x + y) :: st)) : kW p l e R s m args below meth c D A n ws lv Q pc (.long y :: .long x :: st) :=
  fun H locs ls hP hD hS hl => lv_ladd C.1 C.2.1 hd  (kk H locs ls hP hD hS hl)
theorem k_lsub (C : kC p l e R s m args below meth c D tys A n cc own Wd ret) {x y : Int64} (hd : decode cc pc = .ok (.lsub, 1))  (kk : kW p l e R s m args below meth c D A n ws lv Q (pc + 1) (.long (x - y) :: st)) : kW p l e R s m args below meth c D A n ws lv Q pc (.long y :: .long x :: st) :=
  fun H locs ls hP hD hS hl => lv_lsub C.1 C.2.1 hd  (kk H locs ls hP hD hS hl)
theorem k_lmul (C : kC p l e R s m args below meth c D tys A n cc own Wd ret) {x y : Int64} (hd : decode cc pc = .ok (.lmul, 1))  (kk : kW p l e R s m args below meth c D A n ws lv Q (pc + 1) (.long (x * y) :: st)) : kW p l e R s m args below meth c D A n ws lv Q pc (.long y :: .long x :: st) :=
  fun H locs ls hP hD hS hl => lv_lmul C.1 C.2.1 hd  (kk H locs ls hP hD hS hl)
theorem k_land (C : kC p l e R s m args below meth c D tys A n cc own Wd ret) {x y : Int64} (hd : decode cc pc = .ok (.land, 1))  (kk : kW p l e R s m args below meth c D A n ws lv Q (pc + 1) (.long (x &&& y) :: st)) : kW p l e R s m args below meth c D A n ws lv Q pc (.long y :: .long x :: st) :=
  fun H locs ls hP hD hS hl => lv_land C.1 C.2.1 hd  (kk H locs ls hP hD hS hl)
theorem k_lor (C : kC p l e R s m args below meth c D tys A n cc own Wd ret) {x y : Int64} (hd : decode cc pc = .ok (.lor, 1))  (kk : kW p l e R s m args below meth c D A n ws lv Q (pc + 1) (.long (x ||| y) :: st)) : kW p l e R s m args below meth c D A n ws lv Q pc (.long y :: .long x :: st) :=
  fun H locs ls hP hD hS hl => lv_lor C.1 C.2.1 hd  (kk H locs ls hP hD hS hl)
theorem k_lxor (C : kC p l e R s m args below meth c D tys A n cc own Wd ret) {x y : Int64} (hd : decode cc pc = .ok (.lxor, 1))  (kk : kW p l e R s m args below meth c D A n ws lv Q (pc + 1) (.long (x ^^^ y) :: st)) : kW p l e R s m args below meth c D A n ws lv Q pc (.long y :: .long x :: st) :=
  fun H locs ls hP hD hS hl => lv_lxor C.1 C.2.1 hd  (kk H locs ls hP hD hS hl)
theorem k_ineg (C : kC p l e R s m args below meth c D tys A n cc own Wd ret) {x : Int32} (hd : decode cc pc = .ok (.ineg, 1))  (kk : kW p l e R s m args below meth c D A n ws lv Q (pc + 1) (.int (-x) :: st)) : kW p l e R s m args below meth c D A n ws lv Q pc (.int x :: st) :=
  fun H locs ls hP hD hS hl => lv_ineg C.1 C.2.1 hd  (kk H locs ls hP hD hS hl)
theorem k_lneg (C : kC p l e R s m args below meth c D tys A n cc own Wd ret) {x : Int64} (hd : decode cc pc = .ok (.lneg, 1))  (kk : kW p l e R s m args below meth c D A n ws lv Q (pc + 1) (.long (-x) :: st)) : kW p l e R s m args below meth c D A n ws lv Q pc (.long x :: st) :=
  fun H locs ls hP hD hS hl => lv_lneg C.1 C.2.1 hd  (kk H locs ls hP hD hS hl)
theorem k_iushr (C : kC p l e R s m args below meth c D tys A n cc own Wd ret) {x y : Int32} (hd : decode cc pc = .ok (.iushr, 1))  (kk : kW p l e R s m args below meth c D A n ws lv Q (pc + 1) (.int (ushr x y) :: st)) : kW p l e R s m args below meth c D A n ws lv Q pc (.int y :: .int x :: st) :=
  fun H locs ls hP hD hS hl => lv_iushr C.1 C.2.1 hd rfl (kk H locs ls hP hD hS hl)
theorem k_lshl (C : kC p l e R s m args below meth c D tys A n cc own Wd ret) {x : Int64} {y : Int32} (hd : decode cc pc = .ok (.lshl, 1))  (kk : kW p l e R s m args below meth c D A n ws lv Q (pc + 1) (.long (x <<< (y.toInt64 &&& 63)) :: st)) : kW p l e R s m args below meth c D A n ws lv Q pc (.int y :: .long x :: st) :=
  fun H locs ls hP hD hS hl => lv_lshl C.1 C.2.1 hd rfl (kk H locs ls hP hD hS hl)
theorem k_lshr (C : kC p l e R s m args below meth c D tys A n cc own Wd ret) {x : Int64} {y : Int32} (hd : decode cc pc = .ok (.lshr, 1))  (kk : kW p l e R s m args below meth c D A n ws lv Q (pc + 1) (.long (x >>> (y.toInt64 &&& 63)) :: st)) : kW p l e R s m args below meth c D A n ws lv Q pc (.int y :: .long x :: st) :=
  fun H locs ls hP hD hS hl => lv_lshr C.1 C.2.1 hd rfl (kk H locs ls hP hD hS hl)
theorem k_lushr (C : kC p l e R s m args below meth c D tys A n cc own Wd ret) {x : Int64} {y : Int32} (hd : decode cc pc = .ok (.lushr, 1))  (kk : kW p l e R s m args below meth c D A n ws lv Q (pc + 1) (.long (ushrL x y) :: st)) : kW p l e R s m args below meth c D A n ws lv Q pc (.int y :: .long x :: st) :=
  fun H locs ls hP hD hS hl => lv_lushr C.1 C.2.1 hd rfl (kk H locs ls hP hD hS hl)
theorem k_i2l (C : kC p l e R s m args below meth c D tys A n cc own Wd ret) {x : Int32} (hd : decode cc pc = .ok (.i2l, 1))  (kk : kW p l e R s m args below meth c D A n ws lv Q (pc + 1) (.long (Int32.toInt64 x) :: st)) : kW p l e R s m args below meth c D A n ws lv Q pc (.int x :: st) :=
  fun H locs ls hP hD hS hl => lv_i2l C.1 C.2.1 hd rfl (kk H locs ls hP hD hS hl)
theorem k_l2i (C : kC p l e R s m args below meth c D tys A n cc own Wd ret) {x : Int64} (hd : decode cc pc = .ok (.l2i, 1))  (kk : kW p l e R s m args below meth c D A n ws lv Q (pc + 1) (.int (Int64.toInt32 x) :: st)) : kW p l e R s m args below meth c D A n ws lv Q pc (.long x :: st) :=
  fun H locs ls hP hD hS hl => lv_l2i C.1 C.2.1 hd rfl (kk H locs ls hP hD hS hl)
theorem k_i2b (C : kC p l e R s m args below meth c D tys A n cc own Wd ret) {x : Int32} (hd : decode cc pc = .ok (.i2b, 1))  (kk : kW p l e R s m args below meth c D A n ws lv Q (pc + 1) (.int (i2b x) :: st)) : kW p l e R s m args below meth c D A n ws lv Q pc (.int x :: st) :=
  fun H locs ls hP hD hS hl => lv_i2b C.1 C.2.1 hd rfl (kk H locs ls hP hD hS hl)
theorem k_i2s (C : kC p l e R s m args below meth c D tys A n cc own Wd ret) {x : Int32} (hd : decode cc pc = .ok (.i2s, 1))  (kk : kW p l e R s m args below meth c D A n ws lv Q (pc + 1) (.int (i2s x) :: st)) : kW p l e R s m args below meth c D A n ws lv Q pc (.int x :: st) :=
  fun H locs ls hP hD hS hl => lv_i2s C.1 C.2.1 hd rfl (kk H locs ls hP hD hS hl)
theorem k_i2c (C : kC p l e R s m args below meth c D tys A n cc own Wd ret) {x : Int32} (hd : decode cc pc = .ok (.i2c, 1))  (kk : kW p l e R s m args below meth c D A n ws lv Q (pc + 1) (.int (i2c x) :: st)) : kW p l e R s m args below meth c D A n ws lv Q pc (.int x :: st) :=
  fun H locs ls hP hD hS hl => lv_i2c C.1 C.2.1 hd rfl (kk H locs ls hP hD hS hl)
theorem k_lcmp (C : kC p l e R s m args below meth c D tys A n cc own Wd ret) {x y : Int64} (hd : decode cc pc = .ok (.lcmp, 1))  (kk : kW p l e R s m args below meth c D A n ws lv Q (pc + 1) (.int (lg_cmp x y) :: st)) : kW p l e R s m args below meth c D A n ws lv Q pc (.long y :: .long x :: st) :=
  fun H locs ls hP hD hS hl => W.lcmp C.1 C.2.1 hd  (kk H locs ls hP hD hS hl)
theorem k_idiv (C : kC p l e R s m args below meth c D tys A n cc own Wd ret) {x y v : Int32} (hd : decode cc pc = .ok (.idiv, 1)) (hv : dv x y = some v) (kk : kW p l e R s m args below meth c D A n ws lv Q (pc + 1) (.int v :: st)) : kW p l e R s m args below meth c D A n ws lv Q pc (.int y :: .int x :: st) := by
  obtain ⟨h0, rfl⟩ := nnE hv
  exact fun H locs ls hP hD hS hl => lv_idiv C.1 C.2.1 hd h0 (kk H locs ls hP hD hS hl)
theorem k_irem (C : kC p l e R s m args below meth c D tys A n cc own Wd ret) {x y v : Int32} (hd : decode cc pc = .ok (.irem, 1)) (hv : rm x y = some v) (kk : kW p l e R s m args below meth c D A n ws lv Q (pc + 1) (.int v :: st)) : kW p l e R s m args below meth c D A n ws lv Q pc (.int y :: .int x :: st) := by
  obtain ⟨h0, rfl⟩ := nnE hv
  exact fun H locs ls hP hD hS hl => lv_irem C.1 C.2.1 hd h0 (kk H locs ls hP hD hS hl)
theorem k_dup (C : kC p l e R s m args below meth c D tys A n cc own Wd ret) {va : Value} (hd : decode cc pc = .ok (.dup, 1)) (hva : va.category = 1) (kk : kW p l e R s m args below meth c D A n ws lv Q (pc + 1) (va :: va :: st)) : kW p l e R s m args below meth c D A n ws lv Q pc (va :: st) :=
  fun H locs ls hP hD hS hl => lv_dup C.1 C.2.1 hd hva (kk H locs ls hP hD hS hl)
theorem k_pop (C : kC p l e R s m args below meth c D tys A n cc own Wd ret) {va : Value} (hd : decode cc pc = .ok (.pop, 1)) (hva : va.category = 1) (kk : kW p l e R s m args below meth c D A n ws lv Q (pc + 1) (st)) : kW p l e R s m args below meth c D A n ws lv Q pc (va :: st) :=
  fun H locs ls hP hD hS hl => lv_pop C.1 C.2.1 hd hva (kk H locs ls hP hD hS hl)
theorem k_dup_x1 (C : kC p l e R s m args below meth c D tys A n cc own Wd ret) {va vb : Value} (hd : decode cc pc = .ok (.dup_x1, 1)) (hva : va.category = 1) (hvb : vb.category = 1) (kk : kW p l e R s m args below meth c D A n ws lv Q (pc + 1) (va :: vb :: va :: st)) : kW p l e R s m args below meth c D A n ws lv Q pc (va :: vb :: st) :=
  fun H locs ls hP hD hS hl => lv_dup_x1 C.1 C.2.1 hd hva hvb (kk H locs ls hP hD hS hl)
theorem k_dup2_11 (C : kC p l e R s m args below meth c D tys A n cc own Wd ret) {va vb : Value} (hd : decode cc pc = .ok (.dup2, 1)) (hva : va.category = 1) (hvb : vb.category = 1) (kk : kW p l e R s m args below meth c D A n ws lv Q (pc + 1) (va :: vb :: va :: vb :: st)) : kW p l e R s m args below meth c D A n ws lv Q pc (va :: vb :: st) :=
  fun H locs ls hP hD hS hl => lv_dup2_11 C.1 C.2.1 hd hva hvb (kk H locs ls hP hD hS hl)
theorem k_dup2_2 (C : kC p l e R s m args below meth c D tys A n cc own Wd ret) {va : Value} (hd : decode cc pc = .ok (.dup2, 1)) (hva : va.category = 2) (kk : kW p l e R s m args below meth c D A n ws lv Q (pc + 1) (va :: va :: st)) : kW p l e R s m args below meth c D A n ws lv Q pc (va :: st) :=
  fun H locs ls hP hD hS hl => lv_dup2_2 C.1 C.2.1 hd hva (kk H locs ls hP hD hS hl)
theorem k_if_eq (C : kC p l e R s m args below meth c D tys A n cc own Wd ret) {x : Int32} {off : Int} {tgt : Nat} (hd : decode cc pc = .ok (.ifCond .eq off, 3)) (ht : (pc : Int) + off = (tgt : Int)) (kt : x = 0 → kW p l e R s m args below meth c D A n ws lv Q tgt st) (kf : ¬ x = 0 → kW p l e R s m args below meth c D A n ws lv Q (pc + 3) st) : kW p l e R s m args below meth c D A n ws lv Q pc (.int x :: st) :=
  fun H locs ls hP hD hS hl => lv_if_eq C.1 C.2.1 hd ht (fun q => kt q H locs ls hP hD hS hl) (fun q => kf q H locs ls hP hD hS hl)
theorem k_if_lt (C : kC p l e R s m args below meth c D tys A n cc own Wd ret) {x : Int32} {off : Int} {tgt : Nat} (hd : decode cc pc = .ok (.ifCond .lt off, 3)) (ht : (pc : Int) + off = (tgt : Int)) (kt : x < 0 → kW p l e R s m args below meth c D A n ws lv Q tgt st) (kf : ¬ x < 0 → kW p l e R s m args below meth c D A n ws lv Q (pc + 3) st) : kW p l e R s m args below meth c D A n ws lv Q pc (.int x :: st) :=
  fun H locs ls hP hD hS hl => lv_if_lt C.1 C.2.1 hd ht (fun q => kt q H locs ls hP hD hS hl) (fun q => kf q H locs ls hP hD hS hl)
theorem k_if_ge (C : kC p l e R s m args below meth c D tys A n cc own Wd ret) {x : Int32} {off : Int} {tgt : Nat} (hd : decode cc pc = .ok (.ifCond .ge off, 3)) (ht : (pc : Int) + off = (tgt : Int)) (kt : 0 ≤ x → kW p l e R s m args below meth c D A n ws lv Q tgt st) (kf : ¬ 0 ≤ x → kW p l e R s m args below meth c D A n ws lv Q (pc + 3) st) : kW p l e R s m args below meth c D A n ws lv Q pc (.int x :: st) :=
  fun H locs ls hP hD hS hl => lv_if_ge C.1 C.2.1 hd ht (fun q => kt q H locs ls hP hD hS hl) (fun q => kf q H locs ls hP hD hS hl)
theorem k_if_gt (C : kC p l e R s m args below meth c D tys A n cc own Wd ret) {x : Int32} {off : Int} {tgt : Nat} (hd : decode cc pc = .ok (.ifCond .gt off, 3)) (ht : (pc : Int) + off = (tgt : Int)) (kt : 0 < x → kW p l e R s m args below meth c D A n ws lv Q tgt st) (kf : ¬ 0 < x → kW p l e R s m args below meth c D A n ws lv Q (pc + 3) st) : kW p l e R s m args below meth c D A n ws lv Q pc (.int x :: st) :=
  fun H locs ls hP hD hS hl => lv_if_gt C.1 C.2.1 hd ht (fun q => kt q H locs ls hP hD hS hl) (fun q => kf q H locs ls hP hD hS hl)
theorem k_if_le (C : kC p l e R s m args below meth c D tys A n cc own Wd ret) {x : Int32} {off : Int} {tgt : Nat} (hd : decode cc pc = .ok (.ifCond .le off, 3)) (ht : (pc : Int) + off = (tgt : Int)) (kt : x ≤ 0 → kW p l e R s m args below meth c D A n ws lv Q tgt st) (kf : ¬ x ≤ 0 → kW p l e R s m args below meth c D A n ws lv Q (pc + 3) st) : kW p l e R s m args below meth c D A n ws lv Q pc (.int x :: st) :=
  fun H locs ls hP hD hS hl => lv_if_le C.1 C.2.1 hd ht (fun q => kt q H locs ls hP hD hS hl) (fun q => kf q H locs ls hP hD hS hl)
theorem k_if_ne (C : kC p l e R s m args below meth c D tys A n cc own Wd ret) {x : Int32} {off : Int} {tgt : Nat} (hd : decode cc pc = .ok (.ifCond .ne off, 3)) (ht : (pc : Int) + off = (tgt : Int)) (kt : ¬ x = 0 → kW p l e R s m args below meth c D A n ws lv Q tgt st) (kf : x = 0 → kW p l e R s m args below meth c D A n ws lv Q (pc + 3) st) : kW p l e R s m args below meth c D A n ws lv Q pc (.int x :: st) :=
  fun H locs ls hP hD hS hl => lv_if_ne C.1 C.2.1 hd ht (fun q => kt q H locs ls hP hD hS hl) (fun q => kf q H locs ls hP hD hS hl)
theorem k_icmp_eq (C : kC p l e R s m args below meth c D tys A n cc own Wd ret) {x y : Int32} {off : Int} {tgt : Nat} (hd : decode cc pc = .ok (.if_icmp .eq off, 3)) (ht : (pc : Int) + off = (tgt : Int)) (kt : x = y → kW p l e R s m args below meth c D A n ws lv Q tgt st) (kf : ¬ x = y → kW p l e R s m args below meth c D A n ws lv Q (pc + 3) st) : kW p l e R s m args below meth c D A n ws lv Q pc (.int y :: .int x :: st) :=
  fun H locs ls hP hD hS hl => lv_icmp_eq C.1 C.2.1 hd ht (fun q => kt q H locs ls hP hD hS hl) (fun q => kf q H locs ls hP hD hS hl)
theorem k_icmp_lt (C : kC p l e R s m args below meth c D tys A n cc own Wd ret) {x y : Int32} {off : Int} {tgt : Nat} (hd : decode cc pc = .ok (.if_icmp .lt off, 3)) (ht : (pc : Int) + off = (tgt : Int)) (kt : x < y → kW p l e R s m args below meth c D A n ws lv Q tgt st) (kf : ¬ x < y → kW p l e R s m args below meth c D A n ws lv Q (pc + 3) st) : kW p l e R s m args below meth c D A n ws lv Q pc (.int y :: .int x :: st) :=
  fun H locs ls hP hD hS hl => lv_icmp_lt C.1 C.2.1 hd ht (fun q => kt q H locs ls hP hD hS hl) (fun q => kf q H locs ls hP hD hS hl)
theorem k_icmp_ge (C : kC p l e R s m args below meth c D tys A n cc own Wd ret) {x y : Int32} {off : Int} {tgt : Nat} (hd : decode cc pc = .ok (.if_icmp .ge off, 3)) (ht : (pc : Int) + off = (tgt : Int)) (kt : y ≤ x → kW p l e R s m args below meth c D A n ws lv Q tgt st) (kf : ¬ y ≤ x → kW p l e R s m args below meth c D A n ws lv Q (pc + 3) st) : kW p l e R s m args below meth c D A n ws lv Q pc (.int y :: .int x :: st) :=
  fun H locs ls hP hD hS hl => lv_icmp_ge C.1 C.2.1 hd ht (fun q => kt q H locs ls hP hD hS hl) (fun q => kf q H locs ls hP hD hS hl)
theorem k_icmp_gt (C : kC p l e R s m args below meth c D tys A n cc own Wd ret) {x y : Int32} {off : Int} {tgt : Nat} (hd : decode cc pc = .ok (.if_icmp .gt off, 3)) (ht : (pc : Int) + off = (tgt : Int)) (kt : y < x → kW p l e R s m args below meth c D A n ws lv Q tgt st) (kf : ¬ y < x → kW p l e R s m args below meth c D A n ws lv Q (pc + 3) st) : kW p l e R s m args below meth c D A n ws lv Q pc (.int y :: .int x :: st) :=
  fun H locs ls hP hD hS hl => lv_icmp_gt C.1 C.2.1 hd ht (fun q => kt q H locs ls hP hD hS hl) (fun q => kf q H locs ls hP hD hS hl)
theorem k_icmp_le (C : kC p l e R s m args below meth c D tys A n cc own Wd ret) {x y : Int32} {off : Int} {tgt : Nat} (hd : decode cc pc = .ok (.if_icmp .le off, 3)) (ht : (pc : Int) + off = (tgt : Int)) (kt : x ≤ y → kW p l e R s m args below meth c D A n ws lv Q tgt st) (kf : ¬ x ≤ y → kW p l e R s m args below meth c D A n ws lv Q (pc + 3) st) : kW p l e R s m args below meth c D A n ws lv Q pc (.int y :: .int x :: st) :=
  fun H locs ls hP hD hS hl => lv_icmp_le C.1 C.2.1 hd ht (fun q => kt q H locs ls hP hD hS hl) (fun q => kf q H locs ls hP hD hS hl)
theorem k_icmp_ne (C : kC p l e R s m args below meth c D tys A n cc own Wd ret) {x y : Int32} {off : Int} {tgt : Nat} (hd : decode cc pc = .ok (.if_icmp .ne off, 3)) (ht : (pc : Int) + off = (tgt : Int)) (kt : ¬ x = y → kW p l e R s m args below meth c D A n ws lv Q tgt st) (kf : x = y → kW p l e R s m args below meth c D A n ws lv Q (pc + 3) st) : kW p l e R s m args below meth c D A n ws lv Q pc (.int y :: .int x :: st) :=
  fun H locs ls hP hD hS hl => lv_icmp_ne C.1 C.2.1 hd ht (fun q => kt q H locs ls hP hD hS hl) (fun q => kf q H locs ls hP hD hS hl)
theorem k_goto (C : kC p l e R s m args below meth c D tys A n cc own Wd ret) {off : Int} {tgt : Nat} (hd : decode cc pc = .ok (.goto off, 3)) (ht : (pc : Int) + off = (tgt : Int)) (kk : kW p l e R s m args below meth c D A n ws lv Q tgt st) : kW p l e R s m args below meth c D A n ws lv Q pc st :=
  fun H locs ls hP hD hS hl => lv_goto C.1 C.2.1 hd ht (kk H locs ls hP hD hS hl)
theorem k_tableIn (C : kC p l e R s m args below meth c D tys A n cc own Wd ret) {dflt lo hi : Int} {offs : Array Int} {len : Nat} {x : Int32} {off : Int} {tgt : Nat} (hd : decode cc pc = .ok (.tableswitch dflt lo hi offs, len)) (h1 : ¬ x.toInt < lo) (h2 : ¬ hi < x.toInt) (ho : offs[(x.toInt - lo).toNat]? = some off) (ht : (pc : Int) + off = (tgt : Int)) (kk : kW p l e R s m args below meth c D A n ws lv Q tgt st) : kW p l e R s m args below meth c D A n ws lv Q pc (.int x :: st) :=
  fun H locs ls hP hD hS hl => lv_tableIn C.1 C.2.1 hd h1 h2 ho ht (kk H locs ls hP hD hS hl)
theorem k_tableOut (C : kC p l e R s m args below meth c D tys A n cc own Wd ret) {dflt lo hi : Int} {offs : Array Int} {len : Nat} {x : Int32} {tgt : Nat} (hd : decode cc pc = .ok (.tableswitch dflt lo hi offs, len)) (h : x.toInt < lo ∨ hi < x.toInt) (ht : (pc : Int) + dflt = (tgt : Int)) (kk : kW p l e R s m args below meth c D A n ws lv Q tgt st) : kW p l e R s m args below meth c D A n ws lv Q pc (.int x :: st) :=
  fun H locs ls hP hD hS hl => lv_tableOut C.1 C.2.1 hd h ht (kk H locs ls hP hD hS hl)
theorem k_ldc (C : kC p l e R s m args below meth c D tys A n cc own Wd ret) {index : Nat} {v : Int32} (hw : Jvm.Cond.constant own index v ∈ Wd) (hd : decode cc pc = .ok (.ldc index, 2)) (kk : kW p l e R s m args below meth c D A n ws lv Q (pc + 2) (.int v :: st)) : kW p l e R s m args below meth c D A n ws lv Q pc st :=
  fun H locs ls hP hD hS hl => lv_ldc C.1 C.2.1 C.2.2.2.1 (C.2.2.2.2.1 _ hw) hd (kk H locs ls hP hD hS hl)
theorem k_ldc2 (C : kC p l e R s m args below meth c D tys A n cc own Wd ret) {index : Nat} {v : Int64} (hw : Jvm.Cond.constantLong own index v ∈ Wd) (hd : decode cc pc = .ok (.ldc2_w index, 3)) (kk : kW p l e R s m args below meth c D A n ws lv Q (pc + 3) (.long v :: st)) : kW p l e R s m args below meth c D A n ws lv Q pc st :=
  fun H locs ls hP hD hS hl => lv_ldc2 C.1 C.2.1 C.2.2.2.1 (C.2.2.2.2.1 _ hw) hd (kk H locs ls hP hD hS hl)
/-- other names of the same locals -/
theorem k_lv {lv' : List (Nat × Value)} (ks : List Nat) (h : lv_pick lv ks = lv') (kk : kW p l e R s m args below meth c D A n ws lv' Q pc st) : kW p l e R s m args below meth c D A n ws lv Q pc st :=
  fun H locs ls hP hD hS hl => kk H locs ls hP hD hS (lv_sub hl ks h)
theorem k_get (C : kC p l e R s m args below meth c D tys A n cc own Wd ret) {ref C0 : String} {T : u_T} {N ci index a : Nat} (hin : ∀ w ∈ u_ws C0 T N, w ∈ Wd) (q0 : Nat) {fs : List Value} (he : ws[q0]? = some (a, .inr (ci, fs))) (hc : classes[ci]? = some (C0, T, N)) (k : Nat) (hk : k < N) (hlink : Cond.fieldLink own index ref (T k).2.1 (T k).2.2.1 ∈ Wd) (hown : (T k).1 = ref) {v : Value} (hv : fs[k]? = some v) (hd : decode cc pc = .ok (.getfield index, 3)) (kk : kW p l e R s m args below meth c D A n ws lv Q (pc + 3) (v :: st)) : kW p l e R s m args below meth c D A n ws lv Q pc (.ref a :: st) :=
  fun H locs ls hP hD hS hl => va_get C.1 C.2.1 C.2.2.2.2.1 hin C.2.2.2.1 C.2.2.2.2.2.1 hP q0 he hc k hk (C.2.2.2.2.1 _ hlink) (by rw [hown]; exact fun _ h9 => h9) hv hd (kk H locs ls hP hD hS hl)
theorem k_put (C : kC p l e R s m args below meth c D tys A n cc own Wd ret) {ref C0 : String} {T : u_T} {N ci index a : Nat} (hin : ∀ w ∈ u_ws C0 T N, w ∈ Wd) (ty0 : Nat → FieldType) (hty : ∀ k, k < N → parseFieldDescriptor (T k).2.2.1 = some (ty0 k)) (hnm : ∀ a, a < N → ∀ b, b < N → a ≠ b → (T a).2.1 ≠ (T b).2.1) (q0 : Nat) {fs : List Value} (he : ws[q0]? = some (a, .inr (ci, fs))) (hc : classes[ci]? = some (C0, T, N)) (k : Nat) (hk : k < N) (hlink : Cond.fieldLink own index ref (T k).2.1 (T k).2.2.1 ∈ Wd) (hown : (T k).1 = ref) (hfin : (T k).2.2.2 = false) {ty : FieldType} {v : Value} (hdT : parseFieldDescriptor (T k).2.2.1 = some ty) (hn : narrow ty v = v) (hfit : fits ty v = true) (hl0 : k < fs.length) {ws' : va_W} (hw : ws.set q0 (a, .inr (ci, fs.set k v)) = ws') (hd : decode cc pc = .ok (.putfield index, 3)) (kk : kW p l e R s m args below meth c D A n ws' lv Q (pc + 3) st) : kW p l e R s m args below meth c D A n ws lv Q pc (v :: .ref a :: st) := by
  subst hw
  exact fun H locs ls hP hD hS hl => va_put C.1 C.2.1 C.2.2.2.2.1 hin ty0 hty hnm C.2.2.2.1 C.2.2.2.2.2.1 hP hD hS q0 he hc k hk (C.2.2.2.2.1 _ hlink) (by rw [hown]; exact fun _ h9 => h9) hfin hdT hn hfit hl0 hd (fun H locs hP hD hS => kk H locs ls hP hD hS hl)
theorem k_iald (C : kC p l e R s m args below meth c D tys A n cc own Wd ret) (q0 t0 : Nat) {a : Nat} {cA : ClassId} {N : Nat} {f : Nat → Int32} {i v : Int32} (ha : ws[q0]? = some (a, .inl (cA, N, .inl f))) (ht : tys[t0]? = some (cA, .int)) (hv : rd f N i = some v) (hd : decode cc pc = .ok (.iaload, 1)) (kk : kW p l e R s m args below meth c D A n ws lv Q (pc + 1) (.int v :: st)) : kW p l e R s m args below meth c D A n ws lv Q pc (.int i :: .ref a :: st) := by
  obtain ⟨hin, rfl⟩ := nnE hv
  exact fun H locs ls hP hD hS hl => va_iald C.1 C.2.1 C.2.2.2.2.2.1 hP q0 t0 ha ht hin hd (kk H locs ls hP hD hS hl)
theorem k_zald (C : kC p l e R s m args below meth c D tys A n cc own Wd ret) (q0 t0 : Nat) {a : Nat} {cA : ClassId} {N : Nat} {f : Nat → Int32} {i v : Int32} (ha : ws[q0]? = some (a, .inl (cA, N, .inl f))) (ht : tys[t0]? = some (cA, .boolean)) (hv : rd f N i = some v) (hd : decode cc pc = .ok (.baload, 1)) (kk : kW p l e R s m args below meth c D A n ws lv Q (pc + 1) (.int v :: st)) : kW p l e R s m args below meth c D A n ws lv Q pc (.int i :: .ref a :: st) := by
  obtain ⟨hin, rfl⟩ := nnE hv
  exact fun H locs ls hP hD hS hl => va_zald C.1 C.2.1 C.2.2.2.2.2.1 hP q0 t0 ha ht hin hd (kk H locs ls hP hD hS hl)
theorem k_bald (C : kC p l e R s m args below meth c D tys A n cc own Wd ret) (q0 t0 : Nat) {a : Nat} {cA : ClassId} {N : Nat} {f : Nat → Int32} {i v : Int32} (ha : ws[q0]? = some (a, .inl (cA, N, .inl f))) (ht : tys[t0]? = some (cA, .byte)) (hv : rd f N i = some v) (hd : decode cc pc = .ok (.baload, 1)) (kk : kW p l e R s m args below meth c D A n ws lv Q (pc + 1) (.int v :: st)) : kW p l e R s m args below meth c D A n ws lv Q pc (.int i :: .ref a :: st) := by
  obtain ⟨hin, rfl⟩ := nnE hv
  exact fun H locs ls hP hD hS hl => va_bald C.1 C.2.1 C.2.2.2.2.2.1 hP q0 t0 ha ht hin hd (kk H locs ls hP hD hS hl)
theorem k_cald (C : kC p l e R s m args below meth c D tys A n cc own Wd ret) (q0 t0 : Nat) {a : Nat} {cA : ClassId} {N : Nat} {f : Nat → Int32} {i v : Int32} (ha : ws[q0]? = some (a, .inl (cA, N, .inl f))) (ht : tys[t0]? = some (cA, .char)) (hv : rd f N i = some v) (hd : decode cc pc = .ok (.caload, 1)) (kk : kW p l e R s m args below meth c D A n ws lv Q (pc + 1) (.int v :: st)) : kW p l e R s m args below meth c D A n ws lv Q pc (.int i :: .ref a :: st) := by
  obtain ⟨hin, rfl⟩ := nnE hv
  exact fun H locs ls hP hD hS hl => va_cald C.1 C.2.1 C.2.2.2.2.2.1 hP q0 t0 ha ht hin hd (kk H locs ls hP hD hS hl)
theorem k_sald (C : kC p l e R s m args below meth c D tys A n cc own Wd ret) (q0 t0 : Nat) {a : Nat} {cA : ClassId} {N : Nat} {f : Nat → Int32} {i v : Int32} (ha : ws[q0]? = some (a, .inl (cA, N, .inl f))) (ht : tys[t0]? = some (cA, .short)) (hv : rd f N i = some v) (hd : decode cc pc = .ok (.saload, 1)) (kk : kW p l e R s m args below meth c D A n ws lv Q (pc + 1) (.int v :: st)) : kW p l e R s m args below meth c D A n ws lv Q pc (.int i :: .ref a :: st) := by
  obtain ⟨hin, rfl⟩ := nnE hv
  exact fun H locs ls hP hD hS hl => va_sald C.1 C.2.1 C.2.2.2.2.2.1 hP q0 t0 ha ht hin hd (kk H locs ls hP hD hS hl)
theorem k_lald (C : kC p l e R s m args below meth c D tys A n cc own Wd ret) (q0 t0 : Nat) {a : Nat} {cA : ClassId} {N : Nat} {f : Nat → Int64} {i : Int32} {v : Int64} (ha : ws[q0]? = some (a, .inl (cA, N, .inr (.inl f)))) (ht : tys[t0]? = some (cA, .long)) (hv : rdL f N i = some v) (hd : decode cc pc = .ok (.laload, 1)) (kk : kW p l e R s m args below meth c D A n ws lv Q (pc + 1) (.long v :: st)) : kW p l e R s m args below meth c D A n ws lv Q pc (.int i :: .ref a :: st) := by
  obtain ⟨hin, rfl⟩ := nnE hv
  exact fun H locs ls hP hD hS hl => va_lald C.1 C.2.1 C.2.2.2.2.2.1 hP q0 t0 ha ht hin hd (kk H locs ls hP hD hS hl)
theorem k_iast (C : kC p l e R s m args below meth c D tys A n cc own Wd ret) (q0 t0 : Nat) {a : Nat} {cA : ClassId} {N : Nat} {f g : Nat → Int32} {i x : Int32} {ws' : va_W} (ha : ws[q0]? = some (a, .inl (cA, N, .inl f))) (ht : tys[t0]? = some (cA, .int)) (hv : wr f N i x = some g) (hw : ws.set q0 (a, .inl (cA, N, .inl g)) = ws') (hd : decode cc pc = .ok (.iastore, 1)) (kk : kW p l e R s m args below meth c D A n ws' lv Q (pc + 1) st) : kW p l e R s m args below meth c D A n ws lv Q pc (.int x :: .int i :: .ref a :: st) := by
  obtain ⟨hin, rfl⟩ := nnE hv
  subst hw
  exact fun H locs ls hP hD hS hl => va_iast C.1 C.2.1 C.2.2.2.2.2.1 hP hD hS q0 t0 ha ht hin hd (fun H locs hP hD hS => kk H locs ls hP hD hS hl)
theorem k_zast (C : kC p l e R s m args below meth c D tys A n cc own Wd ret) (q0 t0 : Nat) {a : Nat} {cA : ClassId} {N : Nat} {f g : Nat → Int32} {i x : Int32} {ws' : va_W} (ha : ws[q0]? = some (a, .inl (cA, N, .inl f))) (ht : tys[t0]? = some (cA, .boolean)) (hv : wr f N i (vp_nar .boolean x) = some g) (hw : ws.set q0 (a, .inl (cA, N, .inl g)) = ws') (hd : decode cc pc = .ok (.bastore, 1)) (kk : kW p l e R s m args below meth c D A n ws' lv Q (pc + 1) st) : kW p l e R s m args below meth c D A n ws lv Q pc (.int x :: .int i :: .ref a :: st) := by
  obtain ⟨hin, rfl⟩ := nnE hv
  subst hw
  exact fun H locs ls hP hD hS hl => va_zast C.1 C.2.1 C.2.2.2.2.2.1 hP hD hS q0 t0 ha ht hin hd (fun H locs hP hD hS => kk H locs ls hP hD hS hl)
theorem k_bast (C : kC p l e R s m args below meth c D tys A n cc own Wd ret) (q0 t0 : Nat) {a : Nat} {cA : ClassId} {N : Nat} {f g : Nat → Int32} {i x : Int32} {ws' : va_W} (ha : ws[q0]? = some (a, .inl (cA, N, .inl f))) (ht : tys[t0]? = some (cA, .byte)) (hv : wr f N i (vp_nar .byte x) = some g) (hw : ws.set q0 (a, .inl (cA, N, .inl g)) = ws') (hd : decode cc pc = .ok (.bastore, 1)) (kk : kW p l e R s m args below meth c D A n ws' lv Q (pc + 1) st) : kW p l e R s m args below meth c D A n ws lv Q pc (.int x :: .int i :: .ref a :: st) := by
  obtain ⟨hin, rfl⟩ := nnE hv
  subst hw
  exact fun H locs ls hP hD hS hl => va_bast C.1 C.2.1 C.2.2.2.2.2.1 hP hD hS q0 t0 ha ht hin hd (fun H locs hP hD hS => kk H locs ls hP hD hS hl)
theorem k_cast (C : kC p l e R s m args below meth c D tys A n cc own Wd ret) (q0 t0 : Nat) {a : Nat} {cA : ClassId} {N : Nat} {f g : Nat → Int32} {i x : Int32} {ws' : va_W} (ha : ws[q0]? = some (a, .inl (cA, N, .inl f))) (ht : tys[t0]? = some (cA, .char)) (hv : wr f N i (vp_nar .char x) = some g) (hw : ws.set q0 (a, .inl (cA, N, .inl g)) = ws') (hd : decode cc pc = .ok (.castore, 1)) (kk : kW p l e R s m args below meth c D A n ws' lv Q (pc + 1) st) : kW p l e R s m args below meth c D A n ws lv Q pc (.int x :: .int i :: .ref a :: st) := by
  obtain ⟨hin, rfl⟩ := nnE hv
  subst hw
  exact fun H locs ls hP hD hS hl => va_cast C.1 C.2.1 C.2.2.2.2.2.1 hP hD hS q0 t0 ha ht hin hd (fun H locs hP hD hS => kk H locs ls hP hD hS hl)
theorem k_sast (C : kC p l e R s m args below meth c D tys A n cc own Wd ret) (q0 t0 : Nat) {a : Nat} {cA : ClassId} {N : Nat} {f g : Nat → Int32} {i x : Int32} {ws' : va_W} (ha : ws[q0]? = some (a, .inl (cA, N, .inl f))) (ht : tys[t0]? = some (cA, .short)) (hv : wr f N i (vp_nar .short x) = some g) (hw : ws.set q0 (a, .inl (cA, N, .inl g)) = ws') (hd : decode cc pc = .ok (.sastore, 1)) (kk : kW p l e R s m args below meth c D A n ws' lv Q (pc + 1) st) : kW p l e R s m args below meth c D A n ws lv Q pc (.int x :: .int i :: .ref a :: st) := by
  obtain ⟨hin, rfl⟩ := nnE hv
  subst hw
  exact fun H locs ls hP hD hS hl => va_sast C.1 C.2.1 C.2.2.2.2.2.1 hP hD hS q0 t0 ha ht hin hd (fun H locs hP hD hS => kk H locs ls hP hD hS hl)
theorem k_last (C : kC p l e R s m args below meth c D tys A n cc own Wd ret) (q0 t0 : Nat) {a : Nat} {cA : ClassId} {N : Nat} {f g : Nat → Int64} {i : Int32} {x : Int64} {ws' : va_W} (ha : ws[q0]? = some (a, .inl (cA, N, .inr (.inl f)))) (ht : tys[t0]? = some (cA, .long)) (hv : wrL f N i x = some g) (hw : ws.set q0 (a, .inl (cA, N, .inr (.inl g))) = ws') (hd : decode cc pc = .ok (.lastore, 1)) (kk : kW p l e R s m args below meth c D A n ws' lv Q (pc + 1) st) : kW p l e R s m args below meth c D A n ws lv Q pc (.long x :: .int i :: .ref a :: st) := by
  obtain ⟨hin, rfl⟩ := nnE hv
  subst hw
  exact fun H locs ls hP hD hS hl => va_last C.1 C.2.1 C.2.2.2.2.2.1 hP hD hS q0 t0 ha ht hin hd (fun H locs hP hD hS => kk H locs ls hP hD hS hl)
end KK
/-! contracts and calls -/
theorem fm_of {α : Type} {is : List Nat} {ws : List α} {w : List α} (h : is.map (fun i => ws[i]?) = w.map some) : is.filterMap (fun i => ws[i]?) = w := by
  have e : ∀ l : List Nat, l.filterMap (fun i => ws[i]?) = (l.map (fun i => ws[i]?)).filterMap id := fun l => by rw [List.filterMap_map]; rfl
  rw [e, h, List.filterMap_map]
  have e2 : ∀ l : List α, l.filterMap (id ∘ some) = l := fun l => by
    induction l with
    | nil => rfl
    | cons a t ih => rw [List.filterMap_cons]; simp [ih]
  exact e2 w
def kP (D : va_G) (tys : List (ClassId × FieldType)) (E : State → Prop) (av : List Value) (sz : Nat) (ws : va_W) : Array Value → State → Prop :=
  va_Pc av (fun U => U.heap.size = sz ∧ va_P D classes ws U.heap ∧ va_K D classes tys U ∧ va_D (fun _ => True) ws ∧ E U)
def kB (D : va_G) (A : Nat → Prop) (ws : va_W) : Unit → State → Prop := fun _ t => va_P D classes ws t.heap ∧ va_D A ws
def kQi (D : va_G) (A : Nat → Prop) (ws : va_W) (r : Int32) : Array Value → State → Outcome → State → Prop := va_Qi (fun (r' : Int32) (_ : Unit) => r' = r) (kB D A ws) A
def kQl (D : va_G) (A : Nat → Prop) (ws : va_W) (r : Int64) : Array Value → State → Outcome → State → Prop := va_Ql (fun (r' : Int64) (_ : Unit) => r' = r) (kB D A ws) A
def kQv (D : va_G) (A : Nat → Prop) (ws : va_W) : Array Value → State → Outcome → State → Prop := va_Qv (fun (_ : Unit) => True) (kB D A ws) A
def kTrue : State → Prop := fun _ => True
/-- what a start says of the tables isn't changed by a frame -/
def kBl (E : State → Prop) : Prop := ∀ (U : State) (g : JFrame) (mk : MethodId) (a : Array Value), E U → E (U.calling g mk a)
theorem kBl_T : kBl kTrue := fun _ _ _ _ _ => trivial
theorem kP_blind {D : va_G} {tys : List (ClassId × FieldType)} {E : State → Prop} {av : List Value} {sz : Nat} {ws : va_W} (hE : kBl E) : FrameBlind (kP D tys E av sz ws) := fun a U g mk q => by
  obtain ⟨q0, q1, q2, q3, q4, q5⟩ := q
  exact ⟨q0, q1, q2, va_K.moved (u := U) (U := U.calling g mk a) (Vm.Alike.refl U.vm) q3, q4, hE U g mk a q5⟩
section KC
variable {p : Program} {l : Launch} {e : Env} {R : Room} {s : State} {m : MethodId} {args : Array Value} {below : List Frame} {meth : Method} {c : Code} {D : va_G} {tys : List (ClassId × FieldType)} {A : Nat → Prop} {n : Nat} {cc : ByteArray} {own : String} {Wd : List Cond} {ret : Option FieldType}
variable {ws : va_W} {lv : List (Nat × Value)} {Q : State → Prop} {pc : Nat} {st : List Value}
/-- the environment of a callee: it holds at every state with this heap -/
def kEnv (s : State) (E : State → Prop) (H : Heap) : Prop := kBl E ∧ ∀ U : State, U.heap = H → s.WarmedH U.vm → E U
theorem kEnv_T {H : Heap} : kEnv s kTrue H := ⟨kBl_T, fun _ _ _ => trivial⟩
theorem kpreS {H : Heap} {wc : va_W} {E : State → Prop} {As : List Value} {B : Nat → Prop} (hK : va_K D classes tys s) (hP : va_P D classes wc H) (hD : va_D B wc) (hE : kEnv s E H) : PreS s H (kP D tys E As H.size wc) As :=
  ⟨kP_blind hE.1, fun U hU hW => ⟨rfl, by rw [hU], by rw [hU]; exact hP, va_K.moved hW.alike hK, hD.weaken (fun _ _ _ _ => trivial), hE.2 U hU hW⟩⟩
theorem kpreV {H : Heap} {wc : va_W} {E : State → Prop} {As : List Value} {B : Nat → Prop} {b q0 ci : Nat} {q : vw_C} {fs : List Value} (hK : va_K D classes tys s) (hP : va_P D classes wc H) (hD : va_D B wc) (hE : kEnv s E H) (hc : classes[ci]? = some q) (hr : wc[q0]? = some (b, .inr (ci, fs))) : PreV s H q.1 b (kP D tys E (.ref b :: As) H.size wc) As :=
  ⟨kP_blind hE.1, va_recv hK hP hc hr, fun U hU hW => ⟨rfl, by rw [hU], by rw [hU]; exact hP, va_K.moved hW.alike hK, hD.weaken (fun _ _ _ _ => trivial), hE.2 U hU hW⟩⟩
end KC
/-- cells set at places -/
def kU : List Nat → va_W → va_W → va_W
  | i :: is, q :: w, ws => kU is w (ws.set i q)
  | _, _, ws => ws
theorem kU_len : ∀ (is : List Nat) (w ws : va_W), (kU is w ws).length = ws.length
  | [], _, _ => rfl
  | _ :: _, [], _ => rfl
  | i :: is, q :: w, ws => by
    show (kU is w (ws.set i q)).length = _
    rw [kU_len is w, List.length_set]
theorem kU_out : ∀ (is : List Nat) (w ws : va_W) (k : Nat), k ∉ is → (kU is w ws)[k]? = ws[k]?
  | [], _, _, _, _ => rfl
  | _ :: _, [], _, _, _ => rfl
  | i :: is, q :: w, ws, k, h => by
    show (kU is w (ws.set i q))[k]? = _
    rw [kU_out is w _ k (fun z => h (List.mem_cons_of_mem _ z)), List.getElem?_set_ne (fun z => h (by rw [z]; exact List.mem_cons_self))]
theorem kU_in : ∀ (is : List Nat) (w ws : va_W) (j k : Nat), va_nd is = true → is.length = w.length → is[j]? = some k → k < ws.length → (kU is w ws)[k]? = w[j]?
  | [], _, _, _, _, _, _, h, _ => by simp at h
  | _ :: _, [], _, _, _, _, h, _, _ => by simp at h
  | i :: is, q :: w, ws, j, k, hn, hl, hj, hk => by
    simp only [va_nd, Bool.and_eq_true, decide_eq_true_eq] at hn
    show (kU is w (ws.set i q))[k]? = _
    cases j with
    | zero =>
      rw [List.getElem?_cons_zero] at hj
      cases hj
      rw [kU_out is w _ _ hn.1, List.getElem?_set_self hk]
      rfl
    | succ j =>
      rw [List.getElem?_cons_succ] at hj
      rw [kU_in is w _ j k hn.2 (by simpa using hl) hj (by rw [List.length_set]; exact hk)]
      rfl
/-- behind a call: the callee's cells are as it left them, the others as they were -/
theorem kjoin {A : Nat → Prop} {D : va_G} {ws wc w1 : va_W} {H H1 : Heap} {isC : List Nat} (hP : va_P D classes ws H) (hD : va_D A ws) (hC : isC.map (fun i => ws[i]?) = wc.map some) (hnC : va_nd isC = true) (ha : w1.map (·.1) = wc.map (·.1))
    (hk : ∀ q : Nat, q < H.size → ¬ va_A wc H.size q → H1[q]? = H[q]?) (hP1 : va_P D classes w1 H1) : va_P D classes (kU isC w1 ws) H1 ∧ va_D A (kU isC w1 ws) := by
  have hlen : isC.length = wc.length := by simpa using congrArg List.length hC
  have hlen1 : w1.length = wc.length := by simpa using congrArg List.length ha
  have atC : ∀ (j i : Nat), isC[j]? = some i → ∃ q, ws[i]? = some q ∧ wc[j]? = some q := by
    intro j i hj
    have h1 : (isC.map (fun i => ws[i]?))[j]? = some (ws[i]?) := by rw [List.getElem?_map, hj]; rfl
    rw [hC, List.getElem?_map] at h1
    cases hq : wc[j]? with
    | none => rw [hq] at h1; cases h1
    | some q => rw [hq] at h1; exact ⟨q, (Option.some.inj h1).symm, rfl⟩
  have ad : ∀ (j : Nat) (q1 q : Nat × va_E), w1[j]? = some q1 → wc[j]? = some q → q1.1 = q.1 := by
    intro j q1 q h1 h2
    have e1 : (w1.map (·.1))[j]? = some q1.1 := by rw [List.getElem?_map, h1]; rfl
    rw [ha, List.getElem?_map, h2] at e1
    exact (Option.some.inj e1).symm
  -- each place of the new world
  have key : ∀ (k : Nat) (q : Nat × va_E), (kU isC w1 ws)[k]? = some q → ∃ q0, ws[k]? = some q0 ∧ q0.1 = q.1 ∧ va_at D classes q H1 := by
    intro k q hq
    by_cases hi : k ∈ isC
    · obtain ⟨j, hj⟩ := List.getElem?_of_mem hi
      obtain ⟨q0, h1, h2⟩ := atC j k hj
      have hlt : k < ws.length := (List.getElem?_eq_some_iff.mp h1).1
      rw [kU_in isC w1 ws j k hnC (by rw [hlen, hlen1]) hj hlt] at hq
      exact ⟨q0, h1, (ad j q q0 hq h2).symm, hP1 j q hq⟩
    · rw [kU_out isC w1 ws k hi] at hq
      refine ⟨q, hq, rfl, (hP k q hq).kept (hk q.1 (hP k q hq).lt ?_)⟩
      intro h
      rcases h with ⟨j, e, h⟩ | h
      · have hj : j < isC.length := by rw [hlen]; exact (List.getElem?_eq_some_iff.mp h).1
        obtain ⟨q0, h1, h2⟩ := atC j isC[j] (List.getElem?_eq_getElem hj)
        rw [h] at h2
        cases h2
        have hkk := hD.1 k isC[j] q _ hq h1 rfl
        exact hi (by rw [hkk]; exact List.getElem_mem hj)
      · exact absurd (hP k q hq).lt (Nat.not_lt.mpr h)
  refine ⟨fun k q hq => (key k q hq).choose_spec.2.2, fun i j x y hx hy hxy => ?_, fun k q hq => ?_⟩
  · obtain ⟨x0, h1, h2, -⟩ := key i x hx
    obtain ⟨y0, h3, h4, -⟩ := key j y hy
    exact hD.1 i j x0 y0 h1 h3 (by rw [h2, h4, hxy])
  · obtain ⟨q0, h1, h2, -⟩ := key k q hq
    rw [← h2]
    exact hD.2 k q0 h1
theorem kU_self {ws wc : va_W} : ∀ (is : List Nat), is.map (fun i => ws[i]?) = wc.map some → kU is wc ws = ws := by
  intro is
  induction is generalizing wc with
  | nil => intro _; rfl
  | cons i is ih =>
    intro h
    cases wc with
    | nil => rfl
    | cons q wc =>
      simp only [List.map_cons, List.cons.injEq] at h
      show kU is wc (ws.set i q) = ws
      have hs : ws.set i q = ws := by
        apply List.ext_getElem?
        intro k
        by_cases hk : i = k
        · subst hk
          rw [List.getElem?_set_self (List.getElem?_eq_some_iff.mp h.1).1, h.1]
        · rw [List.getElem?_set_ne hk]
      rw [hs]
      exact ih h.2
section KC2
variable {p : Program} {l : Launch} {e : Env} {R : Room} {s : State} {m : MethodId} {args : Array Value} {below : List Frame} {meth : Method} {c : Code} {D : va_G} {tys : List (ClassId × FieldType)} {A : Nat → Prop} {n : Nat} {cc : ByteArray} {own : String} {Wd : List Cond} {ret : Option FieldType}
variable {ws : va_W} {lv : List (Nat × Value)} {Q : State → Prop} {pc : Nat} {st : List Value}
theorem kcallU_i (C : kC p l e R s m args below meth c D tys A n cc own Wd ret) {wc w1 ws' : va_W} {r : Int32} {a : Array Value} {rest : List Value} (isC : List Nat)
    (hrun : ∀ (H : Heap) (locs : List Loc) (ls : Array Slot), va_P D classes wc H → va_D A wc → va_S A s.heap H locs → (∀ q, va_A wc H.size q → A q) → ls.size = n → va_Run p l e R s m args below meth c H locs 0 0 0 0 (F0 m pc ls st) rest (kQi D (va_A wc H.size) w1 r a) (va_A wc H.size))
    (hC : isC.map (fun i => ws[i]?) = wc.map some) (hnC : va_nd isC = true) (ha : w1.map (·.1) = wc.map (·.1)) (hU : kU isC w1 ws = ws')
    (kk : kW p l e R s m args below meth c D A n ws' lv Q (pc + 3) (.int r :: rest)) : kW p l e R s m args below meth c D A n ws lv Q pc st := by
  intro H locs ls hP hD hS hl
  have hPc := hP.sub isC (fm_of hC)
  have hDc := hD.sub isC hnC hC
  have hFc := va_free hD hS C.2.2.2.2.2.2.1 isC hC
  refine va_calli (hrun H locs ls hPc hDc hS hFc hl.1) hS (fun q _ h => hFc q h) hFc (fun r1 u t H1 locs1 ht hvm hw hB hz1 hk1 hS1 => ?_)
  obtain ⟨hP1, hD1⟩ := hB
  rw [ht] at hP1
  have hw : r1 = r := hw
  subst hw
  obtain ⟨hP2, hD2⟩ := kjoin hP hD hC hnC ha hk1 hP1
  rw [hU] at hP2 hD2
  exact kk H1 locs1 ls hP2 hD2 hS1 hl
theorem kcallR_i (C : kC p l e R s m args below meth c D tys A n cc own Wd ret) {wc : va_W} {r : Int32} {a : Array Value} {rest : List Value} (isC : List Nat)
    (hrun : ∀ (H : Heap) (locs : List Loc) (ls : Array Slot), va_P D classes wc H → va_D A wc → va_S A s.heap H locs → (∀ q, va_A wc H.size q → A q) → ls.size = n → va_Run p l e R s m args below meth c H locs 0 0 0 0 (F0 m pc ls st) rest (kQi D (va_A wc H.size) wc r a) (va_A wc H.size))
    (hC : isC.map (fun i => ws[i]?) = wc.map some) (hnC : va_nd isC = true) (kk : kW p l e R s m args below meth c D A n ws lv Q (pc + 3) (.int r :: rest)) : kW p l e R s m args below meth c D A n ws lv Q pc st :=
  kcallU_i C isC hrun hC hnC rfl (kU_self isC hC) kk
theorem kcallE_i (C : kC p l e R s m args below meth c D tys A n cc own Wd ret) {r : Int32} {a : Array Value} {rest : List Value}
    (hrun : ∀ (H : Heap) (locs : List Loc) (ls : Array Slot), va_P D classes [] H → va_D A [] → va_S A s.heap H locs → (∀ q, va_A [] H.size q → A q) → ls.size = n → va_Run p l e R s m args below meth c H locs 0 0 0 0 (F0 m pc ls st) rest (kQi D (va_A [] H.size) [] r a) (va_A [] H.size))
    (kk : kW p l e R s m args below meth c D A n ws lv Q (pc + 3) (.int r :: rest)) : kW p l e R s m args below meth c D A n ws lv Q pc st :=
  kcallR_i C (wc := []) [] hrun rfl rfl kk
theorem kcallU_l (C : kC p l e R s m args below meth c D tys A n cc own Wd ret) {wc w1 ws' : va_W} {r : Int64} {a : Array Value} {rest : List Value} (isC : List Nat)
    (hrun : ∀ (H : Heap) (locs : List Loc) (ls : Array Slot), va_P D classes wc H → va_D A wc → va_S A s.heap H locs → (∀ q, va_A wc H.size q → A q) → ls.size = n → va_Run p l e R s m args below meth c H locs 0 0 0 0 (F0 m pc ls st) rest (kQl D (va_A wc H.size) w1 r a) (va_A wc H.size))
    (hC : isC.map (fun i => ws[i]?) = wc.map some) (hnC : va_nd isC = true) (ha : w1.map (·.1) = wc.map (·.1)) (hU : kU isC w1 ws = ws')
    (kk : kW p l e R s m args below meth c D A n ws' lv Q (pc + 3) (.long r :: rest)) : kW p l e R s m args below meth c D A n ws lv Q pc st := by
  intro H locs ls hP hD hS hl
  have hPc := hP.sub isC (fm_of hC)
  have hDc := hD.sub isC hnC hC
  have hFc := va_free hD hS C.2.2.2.2.2.2.1 isC hC
  refine va_calll (hrun H locs ls hPc hDc hS hFc hl.1) hS (fun q _ h => hFc q h) hFc (fun r1 u t H1 locs1 ht hvm hw hB hz1 hk1 hS1 => ?_)
  obtain ⟨hP1, hD1⟩ := hB
  rw [ht] at hP1
  have hw : r1 = r := hw
  subst hw
  obtain ⟨hP2, hD2⟩ := kjoin hP hD hC hnC ha hk1 hP1
  rw [hU] at hP2 hD2
  exact kk H1 locs1 ls hP2 hD2 hS1 hl
theorem kcallR_l (C : kC p l e R s m args below meth c D tys A n cc own Wd ret) {wc : va_W} {r : Int64} {a : Array Value} {rest : List Value} (isC : List Nat)
    (hrun : ∀ (H : Heap) (locs : List Loc) (ls : Array Slot), va_P D classes wc H → va_D A wc → va_S A s.heap H locs → (∀ q, va_A wc H.size q → A q) → ls.size = n → va_Run p l e R s m args below meth c H locs 0 0 0 0 (F0 m pc ls st) rest (kQl D (va_A wc H.size) wc r a) (va_A wc H.size))
    (hC : isC.map (fun i => ws[i]?) = wc.map some) (hnC : va_nd isC = true) (kk : kW p l e R s m args below meth c D A n ws lv Q (pc + 3) (.long r :: rest)) : kW p l e R s m args below meth c D A n ws lv Q pc st :=
  kcallU_l C isC hrun hC hnC rfl (kU_self isC hC) kk
theorem kcallE_l (C : kC p l e R s m args below meth c D tys A n cc own Wd ret) {r : Int64} {a : Array Value} {rest : List Value}
    (hrun : ∀ (H : Heap) (locs : List Loc) (ls : Array Slot), va_P D classes [] H → va_D A [] → va_S A s.heap H locs → (∀ q, va_A [] H.size q → A q) → ls.size = n → va_Run p l e R s m args below meth c H locs 0 0 0 0 (F0 m pc ls st) rest (kQl D (va_A [] H.size) [] r a) (va_A [] H.size))
    (kk : kW p l e R s m args below meth c D A n ws lv Q (pc + 3) (.long r :: rest)) : kW p l e R s m args below meth c D A n ws lv Q pc st :=
  kcallR_l C (wc := []) [] hrun rfl rfl kk
theorem kcallU_v (C : kC p l e R s m args below meth c D tys A n cc own Wd ret) {wc w1 ws' : va_W} {a : Array Value} {rest : List Value} (isC : List Nat)
    (hrun : ∀ (H : Heap) (locs : List Loc) (ls : Array Slot), va_P D classes wc H → va_D A wc → va_S A s.heap H locs → (∀ q, va_A wc H.size q → A q) → ls.size = n → va_Run p l e R s m args below meth c H locs 0 0 0 0 (F0 m pc ls st) rest (kQv D (va_A wc H.size) w1 a) (va_A wc H.size))
    (hC : isC.map (fun i => ws[i]?) = wc.map some) (hnC : va_nd isC = true) (ha : w1.map (·.1) = wc.map (·.1)) (hU : kU isC w1 ws = ws')
    (kk : kW p l e R s m args below meth c D A n ws' lv Q (pc + 3) (rest)) : kW p l e R s m args below meth c D A n ws lv Q pc st := by
  intro H locs ls hP hD hS hl
  have hPc := hP.sub isC (fm_of hC)
  have hDc := hD.sub isC hnC hC
  have hFc := va_free hD hS C.2.2.2.2.2.2.1 isC hC
  refine va_callv (hrun H locs ls hPc hDc hS hFc hl.1) hS (fun q _ h => hFc q h) hFc (fun u t H1 locs1 ht hvm hw hB hz1 hk1 hS1 => ?_)
  obtain ⟨hP1, hD1⟩ := hB
  rw [ht] at hP1
  obtain ⟨hP2, hD2⟩ := kjoin hP hD hC hnC ha hk1 hP1
  rw [hU] at hP2 hD2
  exact kk H1 locs1 ls hP2 hD2 hS1 hl
theorem kcallR_v (C : kC p l e R s m args below meth c D tys A n cc own Wd ret) {wc : va_W} {a : Array Value} {rest : List Value} (isC : List Nat)
    (hrun : ∀ (H : Heap) (locs : List Loc) (ls : Array Slot), va_P D classes wc H → va_D A wc → va_S A s.heap H locs → (∀ q, va_A wc H.size q → A q) → ls.size = n → va_Run p l e R s m args below meth c H locs 0 0 0 0 (F0 m pc ls st) rest (kQv D (va_A wc H.size) wc a) (va_A wc H.size))
    (hC : isC.map (fun i => ws[i]?) = wc.map some) (hnC : va_nd isC = true) (kk : kW p l e R s m args below meth c D A n ws lv Q (pc + 3) (rest)) : kW p l e R s m args below meth c D A n ws lv Q pc st :=
  kcallU_v C isC hrun hC hnC rfl (kU_self isC hC) kk
theorem kcallE_v (C : kC p l e R s m args below meth c D tys A n cc own Wd ret) {a : Array Value} {rest : List Value}
    (hrun : ∀ (H : Heap) (locs : List Loc) (ls : Array Slot), va_P D classes [] H → va_D A [] → va_S A s.heap H locs → (∀ q, va_A [] H.size q → A q) → ls.size = n → va_Run p l e R s m args below meth c H locs 0 0 0 0 (F0 m pc ls st) rest (kQv D (va_A [] H.size) [] a) (va_A [] H.size))
    (kk : kW p l e R s m args below meth c D A n ws lv Q (pc + 3) (rest)) : kW p l e R s m args below meth c D A n ws lv Q pc st :=
  kcallR_v C (wc := []) [] hrun rfl rfl kk
end KC2
section KC3
variable {p : Program} {l : Launch} {e : Env} {R : Room} {s : State} {m : MethodId} {args : Array Value} {below : List Frame} {meth : Method} {c : Code} {D : va_G} {tys : List (ClassId × FieldType)} {A : Nat → Prop} {n : Nat} {cc : ByteArray} {own : String} {Wd : List Cond} {ret : Option FieldType}
variable {ws : va_W} {lv : List (Nat × Value)} {Q : State → Prop} {pc : Nat} {st : List Value}
/-- a call's words and room, by kind -/
theorem krunV (C : kC p l e R s m args below meth c D tys A n cc own Wd ret) {y : MethodName} {bytes : ByteArray} {maxL nA index : Nat} {ret' : Option FieldType} {wy : List Cond} {rm : Room} {E : State → Prop} {Qc : Array Value → State → Outcome → State → Prop} {b q0 ci : Nat} {q : vw_C} {fs : List Value} {As rest : List Value} {wc : va_W} {H : Heap} {locs : List Loc} {ls : Array Slot}
    (hM : Met l y wy rm (kP D tys E (.ref b :: As) H.size wc) Qc 0 0 (va_A wc H.size)) (cw : CallW R s args own q.1 index y bytes maxL ret' wy rm 0 0 nA) (hc : classes[ci]? = some q) (hr : wc[q0]? = some (b, .inr (ci, fs))) (hE : kEnv s E H) (hn : As.length = nA) (hst : st = As.reverse ++ .ref b :: rest) (hW : (rest.map fun v => v.category).sum ≤ 8) (hd : decode cc pc = .ok (.invokevirtual index, 3))
    (hP : va_P D classes wc H) {B : Nat → Prop} (hD : va_D B wc) (hz : ls.size = n) : va_Run p l e R s m args below meth c H locs 0 0 0 0 (F0 m pc ls st) rest (Qc (Value.ref b :: As).toArray) (va_A wc H.size) :=
  va_runV (nL := n) ⟨C.1, C.2.1, C.2.2.1, C.2.2.2.1, C.2.2.2.2.1⟩ hM cw (kpreV C.2.2.2.2.2.1 hP hD hE hc hr) rfl hn hz hst (lv_room hW) hd ⟨Nat.zero_le _, Nat.zero_le _⟩
theorem krunVN (C : kC p l e R s m args below meth c D tys A n cc own Wd ret) {y : MethodName} {bytes : ByteArray} {maxL nA index : Nat} {ret' : Option FieldType} {wy : List Cond} {rm : Room} {E : State → Prop} {Qc : Array Value → State → Outcome → State → Prop} {b q0 ci : Nat} {q : vw_C} {fs : List Value} {As rest : List Value} {wc : va_W} {H : Heap} {locs : List Loc} {ls : Array Slot} {host : String}
    (hM : Met l y wy rm (kP D tys E (.ref b :: As) H.size wc) Qc 0 0 (va_A wc H.size)) (cw : va_CN R s args own index y host bytes maxL ret' wy rm 0 0 nA ∧ (Cond.instanceMethod y).before args s = true ∧ (Cond.selects q.1 y y).before args s = true) (hc : classes[ci]? = some q) (hr : wc[q0]? = some (b, .inr (ci, fs))) (hE : kEnv s E H) (hn : As.length = nA) (hst : st = As.reverse ++ .ref b :: rest) (hW : (rest.map fun v => v.category).sum ≤ 8) (hd : decode cc pc = .ok (.invokevirtual index, 3))
    (hP : va_P D classes wc H) {B : Nat → Prop} (hD : va_D B wc) (hz : ls.size = n) : va_Run p l e R s m args below meth c H locs 0 0 0 0 (F0 m pc ls st) rest (Qc (Value.ref b :: As).toArray) (va_A wc H.size) :=
  va_runVN (nL := n) ⟨C.1, C.2.1, C.2.2.1, C.2.2.2.1, C.2.2.2.2.1⟩ hM cw (kpreV C.2.2.2.2.2.1 hP hD hE hc hr) rfl hn hz hst (lv_room hW) hd ⟨Nat.zero_le _, Nat.zero_le _⟩
theorem krunS (C : kC p l e R s m args below meth c D tys A n cc own Wd ret) {y : MethodName} {bytes : ByteArray} {maxL nA index : Nat} {ret' : Option FieldType} {wy : List Cond} {rm : Room} {E : State → Prop} {Qc : Array Value → State → Outcome → State → Prop} {As rest : List Value} {wc : va_W} {H : Heap} {locs : List Loc} {ls : Array Slot}
    (hM : Met l y wy rm (kP D tys E As H.size wc) Qc 0 0 (va_A wc H.size)) (cw : CallB R s args own index y bytes maxL ret' wy rm 0 0 nA ∧ (Cond.static y).before args s = true) (hE : kEnv s E H) (hn : As.length = nA) (hst : st = As.reverse ++ rest) (hW : (rest.map fun v => v.category).sum ≤ 8) (hd : decode cc pc = .ok (.invokestatic index, 3))
    (hP : va_P D classes wc H) {B : Nat → Prop} (hD : va_D B wc) (hz : ls.size = n) : va_Run p l e R s m args below meth c H locs 0 0 0 0 (F0 m pc ls st) rest (Qc As.toArray) (va_A wc H.size) :=
  va_runS (nL := n) ⟨C.1, C.2.1, C.2.2.1, C.2.2.2.1, C.2.2.2.2.1⟩ hM cw (kpreS C.2.2.2.2.2.1 hP hD hE) rfl hn hz hst (lv_room hW) hd ⟨Nat.zero_le _, Nat.zero_le _⟩
theorem krunSN (C : kC p l e R s m args below meth c D tys A n cc own Wd ret) {y : MethodName} {bytes : ByteArray} {maxL nA index : Nat} {ret' : Option FieldType} {wy : List Cond} {rm : Room} {E : State → Prop} {Qc : Array Value → State → Outcome → State → Prop} {As rest : List Value} {wc : va_W} {H : Heap} {locs : List Loc} {ls : Array Slot} {host : String}
    (hM : Met l y wy rm (kP D tys E As H.size wc) Qc 0 0 (va_A wc H.size)) (cw : va_CN R s args own index y host bytes maxL ret' wy rm 0 0 nA ∧ (Cond.static y).before args s = true ∧ True) (hE : kEnv s E H) (hn : As.length = nA) (hst : st = As.reverse ++ rest) (hW : (rest.map fun v => v.category).sum ≤ 8) (hd : decode cc pc = .ok (.invokestatic index, 3))
    (hP : va_P D classes wc H) {B : Nat → Prop} (hD : va_D B wc) (hz : ls.size = n) : va_Run p l e R s m args below meth c H locs 0 0 0 0 (F0 m pc ls st) rest (Qc As.toArray) (va_A wc H.size) :=
  va_runSN (nL := n) ⟨C.1, C.2.1, C.2.2.1, C.2.2.2.1, C.2.2.2.2.1⟩ hM cw (kpreS C.2.2.2.2.2.1 hP hD hE) rfl hn hz hst (lv_room hW) hd ⟨Nat.zero_le _, Nat.zero_le _⟩
/-! the JDK's members -/
theorem k_mmax (C : kC p l e R s m args below meth c D tys A n cc own Wd ret) {index : Nat} {x y : Int32} (h1 : Cond.methodLink own index Lib.Math.max.name ∈ Wd) (h2 : Cond.static Lib.Math.max.name ∈ Wd) (h3 : Cond.initialized "java/lang/Math" ∈ Wd) (h4 : Cond.code Lib.Math.max.name Lib.Math.max.code 2 (some .int) ∈ Wd) (hf : 1 ≤ R.frames) (ho : (st.map fun v => v.category).sum + 13 ≤ R.locals) (hd : decode cc pc = .ok (.invokestatic index, 3))
    (kk : kW p l e R s m args below meth c D A n ws lv Q (pc + 3) (.int (imax x y) :: st)) : kW p l e R s m args below meth c D A n ws lv Q pc (.int y :: .int x :: st) :=
  fun H locs ls hP hD hS hl => va_mmax C.1 C.2.1 (by rw [C.2.2.1]; exact hl.1.symm) C.2.2.2.1 (C.2.2.2.2.1 _ h1) (C.2.2.2.2.1 _ h2) (C.2.2.2.2.1 _ h3) (C.2.2.2.2.1 _ h4) hf ho (Nat.zero_le _) (Nat.zero_le _) hd (kk H locs ls hP hD hS hl)
theorem k_mmin (C : kC p l e R s m args below meth c D tys A n cc own Wd ret) {index : Nat} {x y : Int32} (h1 : Cond.methodLink own index Lib.Math.min.name ∈ Wd) (h2 : Cond.static Lib.Math.min.name ∈ Wd) (h3 : Cond.initialized "java/lang/Math" ∈ Wd) (h4 : Cond.code Lib.Math.min.name Lib.Math.min.code 2 (some .int) ∈ Wd) (hf : 1 ≤ R.frames) (ho : (st.map fun v => v.category).sum + 13 ≤ R.locals) (hd : decode cc pc = .ok (.invokestatic index, 3))
    (kk : kW p l e R s m args below meth c D A n ws lv Q (pc + 3) (.int (imin x y) :: st)) : kW p l e R s m args below meth c D A n ws lv Q pc (.int y :: .int x :: st) :=
  fun H locs ls hP hD hS hl => va_mmin C.1 C.2.1 (by rw [C.2.2.1]; exact hl.1.symm) C.2.2.2.1 (C.2.2.2.2.1 _ h1) (C.2.2.2.2.1 _ h2) (C.2.2.2.2.1 _ h3) (C.2.2.2.2.1 _ h4) hf ho (Nat.zero_le _) (Nat.zero_le _) hd (kk H locs ls hP hD hS hl)
theorem zrE {x y : Int32} (h : zr x = some y) : narrow .boolean (.int x) = .int x ∧ x = y := by
  unfold zr at h
  by_cases c : x = 0 ∨ x = 1
  · rw [if_pos c] at h
    refine ⟨?_, Option.some.inj h⟩
    rcases c with c | c <;> subst c <;> rfl
  · rw [if_neg c] at h; cases h
theorem sumL {α β γ : Type} {f : α → γ} {g : β → γ} {a : α} {x : γ} (h : Sum.elim f g (.inl a) = x) : f a = x := h
theorem sumR {α β γ : Type} {f : α → γ} {g : β → γ} {b : β} {x : γ} (h : Sum.elim f g (.inr b) = x) : g b = x := h
/-! ends -/
theorem kret_i (C : kC p l e R s m args below meth c D tys A n cc own Wd ret) {r : Int32} (hr : ret = some .int) (hd : decode cc pc = .ok (.ireturn, 1)) : kW p l e R s m args below meth c D A n ws lv (MQ below (kQi D A ws r) args s 0 0 A) pc [.int r] :=
  fun H locs ls hP hD hS hl => W.iret (v := r) C.1 C.2.1 (by rw [C.2.2.2.2.2.2.2.2, hr]) (fun t ht hW => ⟨⟨r, (), rfl, rfl, by rw [ht]; exact hP, hD⟩, hS.F ht⟩) hS.2.2 hd (hlocks := C.2.2.2.2.2.2.2.1)
theorem kret_z (C : kC p l e R s m args below meth c D tys A n cc own Wd ret) {r : Int32} {ty : FieldType} (hr : ret = some ty) (hn : narrow ty (.int r) = .int r) (hd : decode cc pc = .ok (.ireturn, 1)) : kW p l e R s m args below meth c D A n ws lv (MQ below (kQi D A ws r) args s 0 0 A) pc [.int r] :=
  fun H locs ls hP hD hS hl => W.zret (v := r) C.1 C.2.1 (by rw [C.2.2.2.2.2.2.2.2, hr]) hn (fun t ht hW => ⟨⟨r, (), rfl, rfl, by rw [ht]; exact hP, hD⟩, hS.F ht⟩) hS.2.2 hd (hlocks := C.2.2.2.2.2.2.2.1)
theorem kret_l (C : kC p l e R s m args below meth c D tys A n cc own Wd ret) {r : Int64} (hr : ret = some .long) (hd : decode cc pc = .ok (.lreturn, 1)) : kW p l e R s m args below meth c D A n ws lv (MQ below (kQl D A ws r) args s 0 0 A) pc [.long r] :=
  fun H locs ls hP hD hS hl => W.lret (v := r) C.1 C.2.1 (by rw [C.2.2.2.2.2.2.2.2, hr]) (fun t ht hW => ⟨⟨r, (), rfl, rfl, by rw [ht]; exact hP, hD⟩, hS.F ht⟩) hS.2.2 hd (hlocks := C.2.2.2.2.2.2.2.1)
theorem kret_v (C : kC p l e R s m args below meth c D tys A n cc own Wd ret) (hr : ret = none) (hd : decode cc pc = .ok (.return_, 1)) : kW p l e R s m args below meth c D A n ws lv (MQ below (kQv D A ws) args s 0 0 A) pc [] :=
  fun H locs ls hP hD hS hl => W.vret C.1 C.2.1 (by rw [C.2.2.2.2.2.2.2.2, hr]) (fun t ht hW => ⟨⟨(), rfl, trivial, by rw [ht]; exact hP, hD⟩, hS.F ht⟩) hS.2.2 hd (hlocks := C.2.2.2.2.2.2.2.1)
end KC3
/-- a contract out of the walk of its body -/
theorem kmet {l : Launch} {D : va_G} {tys : List (ClassId × FieldType)} {E : State → Prop} {y : MethodName} {cc : ByteArray} {n : Nat} {ret : Option FieldType} {ws' : List Cond} {rm : Room} {av : List Value} {sz : Nat} {ws : va_W} {Qc : Array Value → State → Outcome → State → Prop} {lv : List (Nat × Value)}
    (hy : plainName y.cls = true) (hlen : (lg_sl av).length ≤ n) (hlv : lv_args 0 av = lv)
    (seg : ∀ (p : Program) (e : Env) (s : State) (m : MethodId) (below : List Frame) (meth : Method) (c : Code), kC p l e rm s m av.toArray below meth c D tys (va_A ws sz) n cc y.cls (Cond.code y cc n ret :: ws') ret → E s → kW p l e rm s m av.toArray below meth c D (va_A ws sz) n ws lv (MQ below Qc av.toArray s 0 0 (va_A ws sz)) 0 []) :
    Met l y (Cond.code y cc n ret :: ws') rm (kP D tys E av sz ws) Qc 0 0 (va_A ws sz) := by
  refine Met.ofW (cc := cc) (maxL := n) (ret := ret) hy rfl ?_
  intro p e s m args below meth c s₁ B hml hv
  obtain ⟨rfl, rfl, hP, hK, hD0, hE⟩ := hv
  have hA : ∀ q : Nat, s.heap.size ≤ q → va_A ws s.heap.size q := fun q h => Or.inr h
  have hl := lv_entry av (n := n) hlen
  rw [hlv] at hl
  rw [lg_entry_eq]
  exact seg p e s m below meth c ⟨B.exec, B.bytes, hml, findClass_of_methodNamed B.named, atoms_spec (ws := Cond.code y cc n ret :: ws') B.pre, hK, hA, B.notSynchronized, B.returns⟩ hE s.heap [] _ hP hD0.self va_S.rf hl

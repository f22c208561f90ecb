section K4
variable {p : Program} {l : Launch} {e : Env} {R : Room} {s : State} {m : MethodId} {args : Array Value} {below : List Frame} {meth : Method} {c : Code} {D : va_G} {tys : List (ClassId × FieldType)} {A : Nat → Prop} {n : Nat} {cc : ByteArray} {own : String} {Wd : List Cond} {ret : Option FieldType}
variable {ws : va_W} {lv : List (Nat × Value)} {Q : State → Prop} {pc nc ns : Nat} {st : List Value}
/-- a walk's state with counters of what was made -/
def kG (p : Program) (l : Launch) (e : Env) (R : Room) (s : State) (m : MethodId) (args : Array Value) (below : List Frame) (meth : Method) (c : Code) (D : va_G) (A : Nat → Prop) (n : Nat) (nc ns : Nat) (ws : va_W) (lv : List (Nat × Value)) (Q : State → Prop) (pc : Nat) (st : List Value) : Prop :=
  ∀ (H : Heap) (locs : List Loc) (ls : Array Slot), va_P D classes ws H → va_D A ws → va_S A s.heap H locs → lv_has ls n lv → W p l e R s m args below meth c H locs nc ns Q (F0 m pc ls st)
section
theorem g_aload_n (C : kC p l e R s m args below meth c D tys A n cc own Wd ret) {k : Fin 4} {i : Nat} {x : Nat} (hd : decode cc pc = .ok (.aload_n k, 1)) (j : Nat) (hi : (k : Nat) = i) (hj : lv[j]? = some (i, .ref x)) (kk : kG p l e R s m args below meth c D A n nc ns ws lv Q (pc + 1) (.ref x :: st)) : kG p l e R s m args below meth c D A n nc ns ws lv Q pc (st) :=
  fun H locs ls hP hD hS hl => lv_aload_n C.1 C.2.1 hd hi (lv_at hl j hj) (kk H locs ls hP hD hS hl)
theorem g_iload_n (C : kC p l e R s m args below meth c D tys A n cc own Wd ret) {k : Fin 4} {i : Nat} {x : Int32} (hd : decode cc pc = .ok (.iload_n k, 1)) (j : Nat) (hi : (k : Nat) = i) (hj : lv[j]? = some (i, .int x)) (kk : kG p l e R s m args below meth c D A n nc ns ws lv Q (pc + 1) (.int x :: st)) : kG p l e R s m args below meth c D A n nc ns ws lv Q pc (st) :=
  fun H locs ls hP hD hS hl => lv_iload_n C.1 C.2.1 hd hi (lv_at hl j hj) (kk H locs ls hP hD hS hl)
theorem g_iload (C : kC p l e R s m args below meth c D tys A n cc own Wd ret) {i : Nat} {x : Int32} (hd : decode cc pc = .ok (.iload i, 2)) (j : Nat) (hj : lv[j]? = some (i, .int x)) (kk : kG p l e R s m args below meth c D A n nc ns ws lv Q (pc + 2) (.int x :: st)) : kG p l e R s m args below meth c D A n nc ns ws lv Q pc (st) :=
  fun H locs ls hP hD hS hl => lv_iload C.1 C.2.1 hd (lv_at hl j hj) (kk H locs ls hP hD hS hl)
theorem g_astore_n (C : kC p l e R s m args below meth c D tys A n cc own Wd ret) {k : Fin 4} {i : Nat} {x : Nat} {lv' : List (Nat × Value)} (hd : decode cc pc = .ok (.astore_n k, 1)) (hi : (k : Nat) = i) (hn : i < n) (hl' : (i, Value.ref x) :: lv.filter (fun q => !(q.1 == i) && !(q.1 + 1 == i && q.2.category == 2)) = lv') (kk : kG p l e R s m args below meth c D A n nc ns ws lv' Q (pc + 1) st) : kG p l e R s m args below meth c D A n nc ns ws lv Q pc (.ref x :: st) :=
  fun H locs ls hP hD hS hl => lv_astore_n C.1 C.2.1 hd hi hl hn hl' (fun ls hl => kk H locs ls hP hD hS hl)
theorem g_istore_n (C : kC p l e R s m args below meth c D tys A n cc own Wd ret) {k : Fin 4} {i : Nat} {x : Int32} {lv' : List (Nat × Value)} (hd : decode cc pc = .ok (.istore_n k, 1)) (hi : (k : Nat) = i) (hn : i < n) (hl' : (i, Value.int x) :: lv.filter (fun q => !(q.1 == i) && !(q.1 + 1 == i && q.2.category == 2)) = lv') (kk : kG p l e R s m args below meth c D A n nc ns ws lv' Q (pc + 1) st) : kG p l e R s m args below meth c D A n nc ns ws lv Q pc (.int x :: st) :=
  fun H locs ls hP hD hS hl => lv_istore_n C.1 C.2.1 hd hi hl hn hl' (fun ls hl => kk H locs ls hP hD hS hl)
theorem g_iconst (C : kC p l e R s m args below meth c D tys A n cc own Wd ret) {k : Int} {v : Int32} (hd : decode cc pc = .ok (.iconst k, 1)) (hv : Int32.ofInt k = v) (kk : kG p l e R s m args below meth c D A n nc ns ws lv Q (pc + 1) (.int v :: st)) : kG p l e R s m args below meth c D A n nc ns ws lv Q pc (st) :=
  fun H locs ls hP hD hS hl => lv_iconst C.1 C.2.1 hd hv (kk H locs ls hP hD hS hl)
theorem g_bipush (C : kC p l e R s m args below meth c D tys A n cc own Wd ret) {k : Int} {v : Int32} (hd : decode cc pc = .ok (.bipush k, 2)) (hv : (Int8.ofInt k).toInt32 = v) (kk : kG p l e R s m args below meth c D A n nc ns ws lv Q (pc + 2) (.int v :: st)) : kG p l e R s m args below meth c D A n nc ns ws lv Q pc (st) :=
  fun H locs ls hP hD hS hl => lv_bipush C.1 C.2.1 hd hv (kk H locs ls hP hD hS hl)
theorem g_sipush (C : kC p l e R s m args below meth c D tys A n cc own Wd ret) {k : Int} {v : Int32} (hd : decode cc pc = .ok (.sipush k, 3)) (hv : (Int16.ofInt k).toInt32 = v) (kk : kG p l e R s m args below meth c D A n nc ns ws lv Q (pc + 3) (.int v :: st)) : kG p l e R s m args below meth c D A n nc ns ws lv Q pc (st) :=
  fun H locs ls hP hD hS hl => lv_sipush C.1 C.2.1 hd hv (kk H locs ls hP hD hS hl)
theorem g_iadd (C : kC p l e R s m args below meth c D tys A n cc own Wd ret) {x y : Int32} (hd : decode cc pc = .ok (.iadd, 1))  (kk : kG p l e R s m args below meth c D A n nc ns ws lv Q (pc + 1) (.int (x + y) :: st)) : kG p l e R s m args below meth c D A n nc ns ws lv Q pc (.int y :: .int x :: st) :=
  fun H locs ls hP hD hS hl => lv_iadd C.1 C.2.1 hd  (kk H locs ls hP hD hS hl)
theorem g_isub (C : kC p l e R s m args below meth c D tys A n cc own Wd ret) {x y : Int32} (hd : decode cc pc = .ok (.isub, 1))  (kk : kG p l e R s m args below meth c D A n nc ns ws lv Q (pc + 1) (.int (x - y) :: st)) : kG p l e R s m args below meth c D A n nc ns ws lv Q pc (.int y :: .int x :: st) :=
  fun H locs ls hP hD hS hl => lv_isub C.1 C.2.1 hd  (kk H locs ls hP hD hS hl)
theorem g_iand (C : kC p l e R s m args below meth c D tys A n cc own Wd ret) {x y : Int32} (hd : decode cc pc = .ok (.iand, 1))  (kk : kG p l e R s m args below meth c D A n nc ns ws lv Q (pc + 1) (.int (x &&& y) :: st)) : kG p l e R s m args below meth c D A n nc ns ws lv Q pc (.int y :: .int x :: st) :=
  fun H locs ls hP hD hS hl => lv_iand C.1 C.2.1 hd  (kk H locs ls hP hD hS hl)
theorem g_i2l (C : kC p l e R s m args below meth c D tys A n cc own Wd ret) {x : Int32} (hd : decode cc pc = .ok (.i2l, 1))  (kk : kG p l e R s m args below meth c D A n nc ns ws lv Q (pc + 1) (.long (Int32.toInt64 x) :: st)) : kG p l e R s m args below meth c D A n nc ns ws lv Q pc (.int x :: st) :=
  fun H locs ls hP hD hS hl => lv_i2l C.1 C.2.1 hd rfl (kk H locs ls hP hD hS hl)
theorem g_lshl (C : kC p l e R s m args below meth c D tys A n cc own Wd ret) {x : Int64} {y : Int32} (hd : decode cc pc = .ok (.lshl, 1))  (kk : kG p l e R s m args below meth c D A n nc ns ws lv Q (pc + 1) (.long (x <<< (y.toInt64 &&& 63)) :: st)) : kG p l e R s m args below meth c D A n nc ns ws lv Q pc (.int y :: .long x :: st) :=
  fun H locs ls hP hD hS hl => lv_lshl C.1 C.2.1 hd rfl (kk H locs ls hP hD hS hl)
theorem g_land (C : kC p l e R s m args below meth c D tys A n cc own Wd ret) {x y : Int64} (hd : decode cc pc = .ok (.land, 1))  (kk : kG p l e R s m args below meth c D A n nc ns ws lv Q (pc + 1) (.long (x &&& y) :: st)) : kG p l e R s m args below meth c D A n nc ns ws lv Q pc (.long y :: .long x :: st) :=
  fun H locs ls hP hD hS hl => lv_land C.1 C.2.1 hd  (kk H locs ls hP hD hS hl)
theorem g_lor (C : kC p l e R s m args below meth c D tys A n cc own Wd ret) {x y : Int64} (hd : decode cc pc = .ok (.lor, 1))  (kk : kG p l e R s m args below meth c D A n nc ns ws lv Q (pc + 1) (.long (x ||| y) :: st)) : kG p l e R s m args below meth c D A n nc ns ws lv Q pc (.long y :: .long x :: st) :=
  fun H locs ls hP hD hS hl => lv_lor C.1 C.2.1 hd  (kk H locs ls hP hD hS hl)
theorem g_lcmp (C : kC p l e R s m args below meth c D tys A n cc own Wd ret) {x y : Int64} (hd : decode cc pc = .ok (.lcmp, 1))  (kk : kG p l e R s m args below meth c D A n nc ns ws lv Q (pc + 1) (.int (lg_cmp x y) :: st)) : kG p l e R s m args below meth c D A n nc ns ws lv Q pc (.long y :: .long x :: st) :=
  fun H locs ls hP hD hS hl => W.lcmp C.1 C.2.1 hd  (kk H locs ls hP hD hS hl)
theorem g_if_eq (C : kC p l e R s m args below meth c D tys A n cc own Wd ret) {x : Int32} {off : Int} {tgt : Nat} (hd : decode cc pc = .ok (.ifCond .eq off, 3)) (ht : (pc : Int) + off = (tgt : Int)) (kt : x = 0 → kG p l e R s m args below meth c D A n nc ns ws lv Q tgt st) (kf : ¬ x = 0 → kG p l e R s m args below meth c D A n nc ns ws lv Q (pc + 3) st) : kG p l e R s m args below meth c D A n nc ns ws lv Q pc (.int x :: st) :=
  fun H locs ls hP hD hS hl => lv_if_eq C.1 C.2.1 hd ht (fun q => kt q H locs ls hP hD hS hl) (fun q => kf q H locs ls hP hD hS hl)
theorem g_if_ne (C : kC p l e R s m args below meth c D tys A n cc own Wd ret) {x : Int32} {off : Int} {tgt : Nat} (hd : decode cc pc = .ok (.ifCond .ne off, 3)) (ht : (pc : Int) + off = (tgt : Int)) (kt : ¬ x = 0 → kG p l e R s m args below meth c D A n nc ns ws lv Q tgt st) (kf : x = 0 → kG p l e R s m args below meth c D A n nc ns ws lv Q (pc + 3) st) : kG p l e R s m args below meth c D A n nc ns ws lv Q pc (.int x :: st) :=
  fun H locs ls hP hD hS hl => lv_if_ne C.1 C.2.1 hd ht (fun q => kt q H locs ls hP hD hS hl) (fun q => kf q H locs ls hP hD hS hl)
theorem g_icmp_eq (C : kC p l e R s m args below meth c D tys A n cc own Wd ret) {x y : Int32} {off : Int} {tgt : Nat} (hd : decode cc pc = .ok (.if_icmp .eq off, 3)) (ht : (pc : Int) + off = (tgt : Int)) (kt : x = y → kG p l e R s m args below meth c D A n nc ns ws lv Q tgt st) (kf : ¬ x = y → kG p l e R s m args below meth c D A n nc ns ws lv Q (pc + 3) st) : kG p l e R s m args below meth c D A n nc ns ws lv Q pc (.int y :: .int x :: st) :=
  fun H locs ls hP hD hS hl => lv_icmp_eq C.1 C.2.1 hd ht (fun q => kt q H locs ls hP hD hS hl) (fun q => kf q H locs ls hP hD hS hl)
theorem g_icmp_ge (C : kC p l e R s m args below meth c D tys A n cc own Wd ret) {x y : Int32} {off : Int} {tgt : Nat} (hd : decode cc pc = .ok (.if_icmp .ge off, 3)) (ht : (pc : Int) + off = (tgt : Int)) (kt : y ≤ x → kG p l e R s m args below meth c D A n nc ns ws lv Q tgt st) (kf : ¬ y ≤ x → kG p l e R s m args below meth c D A n nc ns ws lv Q (pc + 3) st) : kG p l e R s m args below meth c D A n nc ns ws lv Q pc (.int y :: .int x :: st) :=
  fun H locs ls hP hD hS hl => lv_icmp_ge C.1 C.2.1 hd ht (fun q => kt q H locs ls hP hD hS hl) (fun q => kf q H locs ls hP hD hS hl)
theorem g_icmp_gt (C : kC p l e R s m args below meth c D tys A n cc own Wd ret) {x y : Int32} {off : Int} {tgt : Nat} (hd : decode cc pc = .ok (.if_icmp .gt off, 3)) (ht : (pc : Int) + off = (tgt : Int)) (kt : y < x → kG p l e R s m args below meth c D A n nc ns ws lv Q tgt st) (kf : ¬ y < x → kG p l e R s m args below meth c D A n nc ns ws lv Q (pc + 3) st) : kG p l e R s m args below meth c D A n nc ns ws lv Q pc (.int y :: .int x :: st) :=
  fun H locs ls hP hD hS hl => lv_icmp_gt C.1 C.2.1 hd ht (fun q => kt q H locs ls hP hD hS hl) (fun q => kf q H locs ls hP hD hS hl)
theorem g_goto (C : kC p l e R s m args below meth c D tys A n cc own Wd ret) {off : Int} {tgt : Nat} (hd : decode cc pc = .ok (.goto off, 3)) (ht : (pc : Int) + off = (tgt : Int)) (kk : kG p l e R s m args below meth c D A n nc ns ws lv Q tgt st) : kG p l e R s m args below meth c D A n nc ns ws lv Q pc st :=
  fun H locs ls hP hD hS hl => lv_goto C.1 C.2.1 hd ht (kk H locs ls hP hD hS hl)
theorem g_iinc (C : kC p l e R s m args below meth c D tys A n cc own Wd ret) {i : Nat} {k : Int} {x v : Int32} {lv' : List (Nat × Value)} (hd : decode cc pc = .ok (.iinc i k, 3)) (j : Nat) (hj : lv[j]? = some (i, .int x)) (hv : x + Int32.ofInt k = v) (hn : i < n) (hl' : (i, Value.int v) :: lv.filter (fun q => !(q.1 == i) && !(q.1 + 1 == i && q.2.category == 2)) = lv') (kk : kG p l e R s m args below meth c D A n nc ns ws lv' Q (pc + 3) st) : kG p l e R s m args below meth c D A n nc ns ws lv Q pc st :=
  fun H locs ls hP hD hS hl => lv_iinc C.1 C.2.1 hd hl hj hv hn hl' (fun ls hl => kk H locs ls hP hD hS hl)
theorem g_tableIn (C : kC p l e R s m args below meth c D tys A n cc own Wd ret) {dflt lo hi : Int} {offs : Array Int} {len : Nat} {x : Int32} {off : Int} {tgt : Nat} (hd : decode cc pc = .ok (.tableswitch dflt lo hi offs, len)) (h1 : ¬ x.toInt < lo) (h2 : ¬ hi < x.toInt) (ho : offs[(x.toInt - lo).toNat]? = some off) (ht : (pc : Int) + off = (tgt : Int)) (kk : kG p l e R s m args below meth c D A n nc ns ws lv Q tgt st) : kG p l e R s m args below meth c D A n nc ns ws lv Q pc (.int x :: st) :=
  fun H locs ls hP hD hS hl => lv_tableIn C.1 C.2.1 hd h1 h2 ho ht (kk H locs ls hP hD hS hl)
theorem g_tableOut (C : kC p l e R s m args below meth c D tys A n cc own Wd ret) {dflt lo hi : Int} {offs : Array Int} {len : Nat} {x : Int32} {tgt : Nat} (hd : decode cc pc = .ok (.tableswitch dflt lo hi offs, len)) (h : x.toInt < lo ∨ hi < x.toInt) (ht : (pc : Int) + dflt = (tgt : Int)) (kk : kG p l e R s m args below meth c D A n nc ns ws lv Q tgt st) : kG p l e R s m args below meth c D A n nc ns ws lv Q pc (.int x :: st) :=
  fun H locs ls hP hD hS hl => lv_tableOut C.1 C.2.1 hd h ht (kk H locs ls hP hD hS hl)
theorem g_dup (C : kC p l e R s m args below meth c D tys A n cc own Wd ret) {va : Value} (hd : decode cc pc = .ok (.dup, 1)) (hva : va.category = 1) (kk : kG p l e R s m args below meth c D A n nc ns ws lv Q (pc + 1) (va :: va :: st)) : kG p l e R s m args below meth c D A n nc ns ws lv Q pc (va :: st) :=
  fun H locs ls hP hD hS hl => lv_dup C.1 C.2.1 hd hva (kk H locs ls hP hD hS hl)
theorem g_ldc2 (C : kC p l e R s m args below meth c D tys A n cc own Wd ret) {index : Nat} {v : Int64} (hw : Jvm.Cond.constantLong own index v ∈ Wd) (hd : decode cc pc = .ok (.ldc2_w index, 3)) (kk : kG p l e R s m args below meth c D A n nc ns ws lv Q (pc + 3) (.long v :: st)) : kG p l e R s m args below meth c D A n nc ns ws lv Q pc st :=
  fun H locs ls hP hD hS hl => lv_ldc2 C.1 C.2.1 C.2.2.2.1 (C.2.2.2.2.1 _ hw) hd (kk H locs ls hP hD hS hl)
theorem g_get (C : kC p l e R s m args below meth c D tys A n cc own Wd ret) {ref C0 : String} {T : u_T} {N ci index a : Nat} (hin : ∀ w ∈ u_ws C0 T N, w ∈ Wd) (q0 : Nat) {fs : List Value} (he : ws[q0]? = some (a, .inr (ci, fs))) (hc : classes[ci]? = some (C0, T, N)) (k : Nat) (hk : k < N) (hlink : Cond.fieldLink own index ref (T k).2.1 (T k).2.2.1 ∈ Wd) (hown : (T k).1 = ref) {v : Value} (hv : fs[k]? = some v) (hd : decode cc pc = .ok (.getfield index, 3)) (kk : kG p l e R s m args below meth c D A n nc ns ws lv Q (pc + 3) (v :: st)) : kG p l e R s m args below meth c D A n nc ns ws lv Q pc (.ref a :: st) :=
  fun H locs ls hP hD hS hl => va_get C.1 C.2.1 C.2.2.2.2.1 hin C.2.2.2.1 C.2.2.2.2.2.1 hP q0 he hc k hk (C.2.2.2.2.1 _ hlink) (by rw [hown]; exact fun _ h9 => h9) hv hd (kk H locs ls hP hD hS hl)
theorem g_put (C : kC p l e R s m args below meth c D tys A n cc own Wd ret) {ref C0 : String} {T : u_T} {N ci index a : Nat} (hin : ∀ w ∈ u_ws C0 T N, w ∈ Wd) (ty0 : Nat → FieldType) (hty : ∀ k, k < N → parseFieldDescriptor (T k).2.2.1 = some (ty0 k)) (hnm : ∀ a, a < N → ∀ b, b < N → a ≠ b → (T a).2.1 ≠ (T b).2.1) (q0 : Nat) {fs : List Value} (he : ws[q0]? = some (a, .inr (ci, fs))) (hc : classes[ci]? = some (C0, T, N)) (k : Nat) (hk : k < N) (hlink : Cond.fieldLink own index ref (T k).2.1 (T k).2.2.1 ∈ Wd) (hown : (T k).1 = ref) (hfin : (T k).2.2.2 = false) {ty : FieldType} {v : Value} (hdT : parseFieldDescriptor (T k).2.2.1 = some ty) (hn : narrow ty v = v) (hfit : fits ty v = true) (hl0 : k < fs.length) {ws' : va_W} (hw : ws.set q0 (a, .inr (ci, fs.set k v)) = ws') (hd : decode cc pc = .ok (.putfield index, 3)) (kk : kG p l e R s m args below meth c D A n nc ns ws' lv Q (pc + 3) st) : kG p l e R s m args below meth c D A n nc ns ws lv Q pc (v :: .ref a :: st) := by
  subst hw
  exact fun H locs ls hP hD hS hl => va_put C.1 C.2.1 C.2.2.2.2.1 hin ty0 hty hnm C.2.2.2.1 C.2.2.2.2.2.1 hP hD hS q0 he hc k hk (C.2.2.2.2.1 _ hlink) (by rw [hown]; exact fun _ h9 => h9) hfin hdT hn hfit hl0 hd (fun H locs hP hD hS => kk H locs ls hP hD hS hl)
theorem g_iast (C : kC p l e R s m args below meth c D tys A n cc own Wd ret) (q0 t0 : Nat) {a : Nat} {cA : ClassId} {N : Nat} {f g : Nat → Int32} {i x : Int32} {ws' : va_W} (ha : ws[q0]? = some (a, .inl (cA, N, .inl f))) (ht : tys[t0]? = some (cA, .int)) (hv : wr f N i x = some g) (hw : ws.set q0 (a, .inl (cA, N, .inl g)) = ws') (hd : decode cc pc = .ok (.iastore, 1)) (kk : kG p l e R s m args below meth c D A n nc ns ws' lv Q (pc + 1) st) : kG p l e R s m args below meth c D A n nc ns ws lv Q pc (.int x :: .int i :: .ref a :: st) := by
  obtain ⟨hin, rfl⟩ := nnE hv
  subst hw
  exact fun H locs ls hP hD hS hl => va_iast C.1 C.2.1 C.2.2.2.2.2.1 hP hD hS q0 t0 ha ht hin hd (fun H locs hP hD hS => kk H locs ls hP hD hS hl)
theorem g_lv {lv' : List (Nat × Value)} (ks : List Nat) (h : lv_pick lv ks = lv') (kk : kG p l e R s m args below meth c D A n nc ns ws lv' Q pc st) : kG p l e R s m args below meth c D A n nc ns ws lv Q pc st :=
  fun H locs ls hP hD hS hl => kk H locs ls hP hD hS (lv_sub hl ks h)
end
/-- a new row of numbers -/
theorem g_newa (C : kC p l e R s m args below meth c D tys A n cc own Wd ret) (t0 : Nat) {atype : ArrayType} {ty : FieldType} {cA : ClassId} {k : Int32} {N' : Nat} {a0 : vp_A} (ht : tys[t0]? = some (cA, ty)) (hRA : ∀ q, va_RA s q ty → s.vm.findClass ("[" ++ ty.toString) = some q) (hw : Cond.arrayClass (newarray.typeOf atype) ∈ Wd) (hty : newarray.typeOf atype = ty) (ha : ∀ cA : ClassId, vp_cell cA a0 = arrV cA N' (fun _ => defaultValue ty)) (hn : ¬ k < 0) (hN : k.toNatClampNeg = N') (hbytes : N' * componentBytes ty ≤ 536870912) (hcells : nc + 1 ≤ R.cells) (hslots : ns + N' ≤ R.slots) (hd : decode cc pc = .ok (.newarray atype, 2))
    (kk : ∀ q : Nat, kG p l e R s m args below meth c D A n (nc + 1) (ns + N') (ws ++ [(q, .inl (cA, a0))]) lv Q (pc + 2) (.ref q :: st)) : kG p l e R s m args below meth c D A n nc ns ws lv Q pc (.int k :: st) := by
  intro H locs ls hP hD hS hl
  refine va_newa (atype := atype) (ty := ty) (a0 := a0) C.1 C.2.1 (C.2.2.2.2.1 _ hw) hty C.2.2.2.2.2.1 hP hD hS C.2.2.2.2.2.2.1 ha hn hN hbytes hcells hslots hd (fun q c2 H1 hK2 hP2 hD2 hS2 => ?_)
  have h1 := hRA _ (C.2.2.2.2.2.1.2 t0 _ ht).2
  have h2 := hRA _ (hK2.2 tys.length (c2, ty) (by simp)).2
  have e : c2 = cA := Option.some.inj (h2.symm.trans h1)
  subst e
  exact kk q H1 locs ls hP2 hD2 hS2 hl
theorem g_new (C : kC p l e R s m args below meth c D tys A n cc own Wd ret) {own' : String} {C0 : String} {T : u_T} {N ci index : Nat} (hin : ∀ w ∈ u_ws C0 T N, w ∈ Wd) (ty : Nat → FieldType) (hty : ∀ k, k < N → parseFieldDescriptor (T k).2.2.1 = some (ty k)) (hcl : Cond.classLink own index C0 ∈ Wd) (hinst : Cond.instantiable C0 N ∈ Wd) (hini : Cond.initialized C0 ∈ Wd) (hc : classes[ci]? = some (C0, T, N)) {fs : List Value} (hfs : ∀ j, j < N → defaultValue (ty j) = vp_V fs j) (hcells : nc + 1 ≤ R.cells) (hslots : ns + N ≤ R.slots) (hd : decode cc pc = .ok (.new index, 3))
    (kk : ∀ q : Nat, kG p l e R s m args below meth c D A n (nc + 1) (ns + N) (ws ++ [(q, .inr (ci, fs))]) lv Q (pc + 3) (.ref q :: st)) : kG p l e R s m args below meth c D A n nc ns ws lv Q pc st :=
  fun H locs ls hP hD hS hl => va_new C.1 C.2.1 C.2.2.2.2.1 hin ty hty C.2.2.2.1 (C.2.2.2.2.1 _ hcl) (C.2.2.2.2.1 _ hinst) (C.2.2.2.2.1 _ hini) C.2.2.2.2.2.1 hP hD hS C.2.2.2.2.2.2.1 hc hfs hcells hslots hd (fun q H1 hP hD hS => kk q H1 locs ls hP hD hS hl)
theorem g_putF (C : kC p l e R s m args below meth c D tys A n cc own Wd ret) (hin2 : meth.name = "<init>") {ref C0 : String} {T : u_T} {N ci index a : Nat} (hin : ∀ w ∈ u_ws C0 T N, w ∈ Wd) (ty0 : Nat → FieldType) (hty : ∀ k, k < N → parseFieldDescriptor (T k).2.2.1 = some (ty0 k)) (hnm : ∀ a, a < N → ∀ b, b < N → a ≠ b → (T a).2.1 ≠ (T b).2.1) (q0 : Nat) {fs : List Value} (he : ws[q0]? = some (a, .inr (ci, fs))) (hc : classes[ci]? = some (C0, T, N)) (k : Nat) (hk : k < N) (hlink : Cond.fieldLink own index ref (T k).2.1 (T k).2.2.1 ∈ Wd) (hown : (T k).1 = ref) (hfin : (T k).2.2.2 = true) (hdecl : (T k).1 = own) {ty : FieldType} {v : Value} (hdT : parseFieldDescriptor (T k).2.2.1 = some ty) (hn : narrow ty v = v) (hfit : fits ty v = true) (hl0 : k < fs.length) {ws' : va_W} (hw : ws.set q0 (a, .inr (ci, fs.set k v)) = ws') (hd : decode cc pc = .ok (.putfield index, 3)) (kk : kG p l e R s m args below meth c D A n nc ns ws' lv Q (pc + 3) st) : kG p l e R s m args below meth c D A n nc ns ws lv Q pc (v :: .ref a :: st) := by
  subst hw
  exact fun H locs ls hP hD hS hl => va_putF C.1 C.2.1 C.2.2.2.2.1 hin ty0 hty hnm C.2.2.2.1 C.2.2.2.2.2.1 hP hD hS q0 he hc k hk (C.2.2.2.2.1 _ hlink) (by rw [hown]; exact fun _ h9 => h9) hfin hin2 hdecl hdT hn hfit hl0 hd (fun H locs hP hD hS => kk H locs ls hP hD hS hl)
theorem g_obj (C : kC p l e R s m args below meth c D tys A n cc own Wd ret) {a idx : Nat} (h1 : Cond.methodLink own idx Lib.objectInit ∈ Wd) (h2 : Cond.instanceMethod Lib.objectInit ∈ Wd) (h3 : Cond.code Lib.objectInit ⟨#[0xb1]⟩ 1 none ∈ Wd) (hf : 1 ≤ R.frames) (ho : (st.map fun v => v.category).sum + 12 ≤ R.locals) (hd : decode cc pc = .ok (.invokespecial idx, 3))
    (kk : kG p l e R s m args below meth c D A n nc ns ws lv Q (pc + 3) st) : kG p l e R s m args below meth c D A n nc ns ws lv Q pc (.ref a :: st) :=
  fun H locs ls hP hD hS hl => W.objInit C.1 C.2.1 C.2.2.2.1 (C.2.2.2.2.1 _ h1) (C.2.2.2.2.1 _ h2) (C.2.2.2.2.1 _ h3) (g := F0 m pc ls (.ref a :: st)) rfl (by rw [C.2.2.1]; exact hl.1) rfl hd hf (by show 2 * 0 + _ + 12 ≤ _; omega) (kk H locs ls hP hD hS hl)
/-- a constructor's end: its cells are F u for some u -/
def kQn {S : Type} (D : va_G) (A : Nat → Prop) (F : S → va_W) : Array Value → State → Outcome → State → Prop := va_Qv (fun _ : S => True) (fun (u : S) (t : State) => va_P D classes (F u) t.heap ∧ va_D A (F u)) A
theorem gret_n (C : kC p l e R s m args below meth c D tys A n cc own Wd ret) {S : Type} {F : S → va_W} (u : S) (hF : F u = ws) (hr : ret = none) (hd : decode cc pc = .ok (.return_, 1)) : kG p l e R s m args below meth c D A n nc ns ws lv (MQ below (kQn D A F) args s nc ns A) pc [] :=
  fun H locs ls hP hD hS hl => W.vret C.1 C.2.1 (by rw [C.2.2.2.2.2.2.2.2, hr]) (fun t ht hW => ⟨⟨u, rfl, trivial, by rw [ht, hF]; exact hP, by rw [hF]; exact hD⟩, hS.F ht⟩) hS.2.2 hd (hlocks := C.2.2.2.2.2.2.2.1)
/-- a call that makes cells -/
theorem g_calln (C : kC p l e R s m args below meth c D tys A n cc own Wd ret) {S : Type} {F : S → va_W} {wc wr : va_W} {a : Array Value} {rest : List Value} {mc ms : Nat} (isC isR : List Nat)
    (hrun : ∀ (H : Heap) (locs : List Loc) (ls : Array Slot), va_P D classes wc H → va_D A wc → va_S A s.heap H locs → (∀ q, va_A wc H.size q → A q) → ls.size = n → va_Run p l e R s m args below meth c H locs nc ns mc ms (F0 m pc ls st) rest (kQn D (va_A wc H.size) F a) (va_A wc H.size))
    (hC : isC.map (fun i => ws[i]?) = wc.map some) (hnC : va_nd isC = true) (hR : isR.map (fun i => ws[i]?) = wr.map some) (hnR : va_nd isR = true) (hdis : ∀ i ∈ isR, i ∉ isC)
    (kk : ∀ u : S, kG p l e R s m args below meth c D A n (nc + mc) (ns + ms) (wr ++ F u) lv Q (pc + 3) rest) : kG p l e R s m args below meth c D A n nc ns ws lv Q pc st := by
  intro H locs ls hP hD hS hl
  have hPc := hP.sub isC (fm_of hC)
  have hDc := hD.sub isC hnC hC
  have hFc := va_free hD hS C.2.2.2.2.2.2.1 isC hC
  refine va_callv (hrun H locs ls hPc hDc hS hFc hl.1) hS (fun q _ h => hFc q h) hFc (fun u t H1 locs1 ht hvm hw hB hz1 hk1 hS1 => ?_)
  obtain ⟨hP1, hD1⟩ := hB
  rw [ht] at hP1
  obtain ⟨hP2, hD2⟩ := va_join hP hD isC isR hC hR hnR hdis hk1 hFc hP1 hD1
  exact kk u H1 locs1 ls hP2 hD2 hS1 hl
theorem grunI (C : kC p l e R s m args below meth c D tys A n cc own Wd ret) {y : MethodName} {bytes : ByteArray} {maxL nA index mc ms : Nat} {wy : List Cond} {rm : Room} {E : State → Prop} {Qc : Array Value → State → Outcome → State → Prop} {b : Nat} {As rest : List Value} {wc : va_W} {H : Heap} {locs : List Loc} {ls : Array Slot}
    (hM : Met l y wy rm (kP D tys E (.ref b :: As) H.size wc) Qc mc ms (va_A wc H.size)) (cw : CallB R s args own index y bytes maxL none wy rm mc ms nA ∧ y.name = "<init>" ∧ (Cond.instanceMethod y).before args s = true) (hE : kEnv s E H) (hn : As.length = nA) (hst : st = As.reverse ++ .ref b :: rest) (hW : (rest.map fun v => v.category).sum ≤ 8) (hd : decode cc pc = .ok (.invokespecial index, 3)) (hf : nc + mc ≤ R.cells ∧ ns + ms ≤ R.slots)
    (hP : va_P D classes wc H) {B : Nat → Prop} (hD : va_D B wc) (hz : ls.size = n) : va_Run p l e R s m args below meth c H locs nc ns mc ms (F0 m pc ls st) rest (Qc (Value.ref b :: As).toArray) (va_A wc H.size) :=
  va_runI (nL := n) ⟨C.1, C.2.1, C.2.2.1, C.2.2.2.1, C.2.2.2.2.1⟩ hM cw (kpreS C.2.2.2.2.2.1 hP hD hE) rfl hn hz hst (lv_room hW) hd hf
theorem grunIN (C : kC p l e R s m args below meth c D tys A n cc own Wd ret) {y : MethodName} {bytes : ByteArray} {maxL nA index mc ms : Nat} {wy : List Cond} {rm : Room} {E : State → Prop} {Qc : Array Value → State → Outcome → State → Prop} {b : Nat} {As rest : List Value} {wc : va_W} {H : Heap} {locs : List Loc} {ls : Array Slot} {host : String}
    (hM : Met l y wy rm (kP D tys E (.ref b :: As) H.size wc) Qc mc ms (va_A wc H.size)) (cw : va_CN R s args own index y host bytes maxL none wy rm mc ms nA ∧ y.name = "<init>" ∧ (Cond.instanceMethod y).before args s = true) (hE : kEnv s E H) (hn : As.length = nA) (hst : st = As.reverse ++ .ref b :: rest) (hW : (rest.map fun v => v.category).sum ≤ 8) (hd : decode cc pc = .ok (.invokespecial index, 3)) (hf : nc + mc ≤ R.cells ∧ ns + ms ≤ R.slots)
    (hP : va_P D classes wc H) {B : Nat → Prop} (hD : va_D B wc) (hz : ls.size = n) : va_Run p l e R s m args below meth c H locs nc ns mc ms (F0 m pc ls st) rest (Qc (Value.ref b :: As).toArray) (va_A wc H.size) :=
  va_runIN (nL := n) ⟨C.1, C.2.1, C.2.2.1, C.2.2.2.1, C.2.2.2.2.1⟩ hM cw (kpreS C.2.2.2.2.2.1 hP hD hE) rfl hn hz hst (lv_room hW) hd hf
theorem gcallU_i (C : kC p l e R s m args below meth c D tys A n cc own Wd ret) {wc w1 ws' : va_W} {r : Int32} {a : Array Value} {rest : List Value} (isC : List Nat)
    (hrun : ∀ (H : Heap) (locs : List Loc) (ls : Array Slot), va_P D classes wc H → va_D A wc → va_S A s.heap H locs → (∀ q, va_A wc H.size q → A q) → ls.size = n → va_Run p l e R s m args below meth c H locs nc ns 0 0 (F0 m pc ls st) rest (kQi D (va_A wc H.size) w1 r a) (va_A wc H.size))
    (hC : isC.map (fun i => ws[i]?) = wc.map some) (hnC : va_nd isC = true) (ha : w1.map (·.1) = wc.map (·.1)) (hU : kU isC w1 ws = ws')
    (kk : kG p l e R s m args below meth c D A n nc ns ws' lv Q (pc + 3) (.int r :: rest)) : kG p l e R s m args below meth c D A n nc ns ws lv Q pc st := by
  intro H locs ls hP hD hS hl
  have hPc := hP.sub isC (fm_of hC)
  have hDc := hD.sub isC hnC hC
  have hFc := va_free hD hS C.2.2.2.2.2.2.1 isC hC
  refine va_calli (hrun H locs ls hPc hDc hS hFc hl.1) hS (fun q _ h => hFc q h) hFc (fun r1 u t H1 locs1 ht hvm hw hB hz1 hk1 hS1 => ?_)
  obtain ⟨hP1, hD1⟩ := hB
  rw [ht] at hP1
  have hw : r1 = r := hw
  subst hw
  obtain ⟨hP2, hD2⟩ := kjoin hP hD hC hnC ha hk1 hP1
  rw [hU] at hP2 hD2
  exact kk H1 locs1 ls hP2 hD2 hS1 hl
theorem gcallU_l (C : kC p l e R s m args below meth c D tys A n cc own Wd ret) {wc w1 ws' : va_W} {r : Int64} {a : Array Value} {rest : List Value} (isC : List Nat)
    (hrun : ∀ (H : Heap) (locs : List Loc) (ls : Array Slot), va_P D classes wc H → va_D A wc → va_S A s.heap H locs → (∀ q, va_A wc H.size q → A q) → ls.size = n → va_Run p l e R s m args below meth c H locs nc ns 0 0 (F0 m pc ls st) rest (kQl D (va_A wc H.size) w1 r a) (va_A wc H.size))
    (hC : isC.map (fun i => ws[i]?) = wc.map some) (hnC : va_nd isC = true) (ha : w1.map (·.1) = wc.map (·.1)) (hU : kU isC w1 ws = ws')
    (kk : kG p l e R s m args below meth c D A n nc ns ws' lv Q (pc + 3) (.long r :: rest)) : kG p l e R s m args below meth c D A n nc ns ws lv Q pc st := by
  intro H locs ls hP hD hS hl
  have hPc := hP.sub isC (fm_of hC)
  have hDc := hD.sub isC hnC hC
  have hFc := va_free hD hS C.2.2.2.2.2.2.1 isC hC
  refine va_calll (hrun H locs ls hPc hDc hS hFc hl.1) hS (fun q _ h => hFc q h) hFc (fun r1 u t H1 locs1 ht hvm hw hB hz1 hk1 hS1 => ?_)
  obtain ⟨hP1, hD1⟩ := hB
  rw [ht] at hP1
  have hw : r1 = r := hw
  subst hw
  obtain ⟨hP2, hD2⟩ := kjoin hP hD hC hnC ha hk1 hP1
  rw [hU] at hP2 hD2
  exact kk H1 locs1 ls hP2 hD2 hS1 hl
theorem gcallU_v (C : kC p l e R s m args below meth c D tys A n cc own Wd ret) {wc w1 ws' : va_W} {a : Array Value} {rest : List Value} (isC : List Nat)
    (hrun : ∀ (H : Heap) (locs : List Loc) (ls : Array Slot), va_P D classes wc H → va_D A wc → va_S A s.heap H locs → (∀ q, va_A wc H.size q → A q) → ls.size = n → va_Run p l e R s m args below meth c H locs nc ns 0 0 (F0 m pc ls st) rest (kQv D (va_A wc H.size) w1 a) (va_A wc H.size))
    (hC : isC.map (fun i => ws[i]?) = wc.map some) (hnC : va_nd isC = true) (ha : w1.map (·.1) = wc.map (·.1)) (hU : kU isC w1 ws = ws')
    (kk : kG p l e R s m args below meth c D A n nc ns ws' lv Q (pc + 3) (rest)) : kG p l e R s m args below meth c D A n nc ns ws lv Q pc st := by
  intro H locs ls hP hD hS hl
  have hPc := hP.sub isC (fm_of hC)
  have hDc := hD.sub isC hnC hC
  have hFc := va_free hD hS C.2.2.2.2.2.2.1 isC hC
  refine va_callv (hrun H locs ls hPc hDc hS hFc hl.1) hS (fun q _ h => hFc q h) hFc (fun u t H1 locs1 ht hvm hw hB hz1 hk1 hS1 => ?_)
  obtain ⟨hP1, hD1⟩ := hB
  rw [ht] at hP1
  obtain ⟨hP2, hD2⟩ := kjoin hP hD hC hnC ha hk1 hP1
  rw [hU] at hP2 hD2
  exact kk H1 locs1 ls hP2 hD2 hS1 hl
theorem grunV (C : kC p l e R s m args below meth c D tys A n cc own Wd ret) {y : MethodName} {bytes : ByteArray} {maxL nA index : Nat} {ret' : Option FieldType} {wy : List Cond} {rm : Room} {E : State → Prop} {Qc : Array Value → State → Outcome → State → Prop} {b q0 ci : Nat} {q : vw_C} {fs : List Value} {As rest : List Value} {wc : va_W} {H : Heap} {locs : List Loc} {ls : Array Slot}
    (hM : Met l y wy rm (kP D tys E (.ref b :: As) H.size wc) Qc 0 0 (va_A wc H.size)) (cw : CallW R s args own q.1 index y bytes maxL ret' wy rm 0 0 nA) (hc : classes[ci]? = some q) (hr : wc[q0]? = some (b, .inr (ci, fs))) (hE : kEnv s E H) (hn : As.length = nA) (hst : st = As.reverse ++ .ref b :: rest) (hW : (rest.map fun v => v.category).sum ≤ 8) (hd : decode cc pc = .ok (.invokevirtual index, 3))
    (hf : nc ≤ R.cells ∧ ns ≤ R.slots) (hP : va_P D classes wc H) {B : Nat → Prop} (hD : va_D B wc) (hz : ls.size = n) : va_Run p l e R s m args below meth c H locs nc ns 0 0 (F0 m pc ls st) rest (Qc (Value.ref b :: As).toArray) (va_A wc H.size) :=
  va_runV (nL := n) ⟨C.1, C.2.1, C.2.2.1, C.2.2.2.1, C.2.2.2.2.1⟩ hM cw (kpreV C.2.2.2.2.2.1 hP hD hE hc hr) rfl hn hz hst (lv_room hW) hd hf
/-- a constructor's contract out of the walk of its body -/
theorem kmetN {l : Launch} {D : va_G} {tys : List (ClassId × FieldType)} {E : State → Prop} {y : MethodName} {cc : ByteArray} {n : Nat} {ws' : List Cond} {rm : Room} {av : List Value} {sz : Nat} {ws : va_W} {S : Type} {F : S → va_W} {lv : List (Nat × Value)}
    (hy : plainName y.cls = true) (hlen : (lg_sl av).length ≤ n) (hlv : lv_args 0 av = lv)
    (seg : ∀ (p : Program) (e : Env) (s : State) (m : MethodId) (below : List Frame) (meth : Method) (c : Code), meth.name = y.name → kC p l e rm s m av.toArray below meth c D tys (va_A ws sz) n cc y.cls (Cond.code y cc n none :: ws') none → E s → kG p l e rm s m av.toArray below meth c D (va_A ws sz) n 0 0 ws lv (MQ below (kQn D (va_A ws sz) F) av.toArray s rm.cells rm.slots (va_A ws sz)) 0 []) :
    Met l y (Cond.code y cc n none :: ws') rm (kP D tys E av sz ws) (kQn D (va_A ws sz) F) rm.cells rm.slots (va_A ws sz) := by
  refine Met.ofW (cc := cc) (maxL := n) (ret := none) hy rfl ?_
  intro p e s m args below meth c s₁ B hml hv
  obtain ⟨rfl, rfl, hP, hK, hD0, hE⟩ := hv
  have hA : ∀ q : Nat, s.heap.size ≤ q → va_A ws s.heap.size q := fun q h => Or.inr h
  have hl := lv_entry av (n := n) hlen
  rw [hlv] at hl
  rw [lg_entry_eq]
  exact seg p e s m below meth c (name_of_methodNamed B.named B.method).1 ⟨B.exec, B.bytes, hml, findClass_of_methodNamed B.named, atoms_spec (ws := Cond.code y cc n none :: ws') B.pre, hK, hA, B.notSynchronized, B.returns⟩ hE s.heap [] _ hP hD0.self va_S.rf hl
end K4

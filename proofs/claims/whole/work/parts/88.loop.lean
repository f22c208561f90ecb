/-! THE CLAIM OUT OF ONE WALK OF THE LAW'S BODY. Your part is whole_start (and what it stands on); all else here is the same for every law, but numbers. -/
def R_law : String := "GravelHasTheLastWordLaw"
def lw_P (b : Addr) (xs : List Int32) (args : Array Value) (s : State) : Prop := args = #[.ref b] ∧ s.IntsAt b xs ∧ xs.length ≤ 3072 ∧ (Jvm.Cond.and given_1 narrow_1).before args s = true
def lw_Q (_ : Array Value) (s : State) (o : Outcome) (t : State) : Prop := o = .returned (some (.int 1)) ∧ Framed s o t [] 49 1921
def lw_Z (below : List Frame) (a : Array Value) (s : State) : State → Prop := fun t => ∃ o, t.status = .running ∧ Ended t below o ∧ lw_Q a s o t
/-- the law's own end, with 1 on the stack, nothing written that was there before, its room as the claim has it -/
theorem lw_ret {p : Program} {l : Launch} {e : Env} {s : State} {m : MethodId} {below : List Frame} {meth : Method} {c : Code} {b : Nat} (hx : p.tables.exec = Jvm.exec) (hb : c.code = code) (hr : meth.sig.returnType = ret) (hlocks : meth.locks = false) {pc : Nat} {H : Heap} {ls : Array Slot} (hdg : decode code pc = .ok (.ireturn, 1)) : W p l e room_1 s m #[Value.ref b] below meth c H [] 49 1921 (lw_Z below #[Value.ref b] s) (F0 m pc ls [.int 1]) := by
  intro T hT X
  obtain ⟨fs, hret, hrun, hended, hW, hframe⟩ := X.leave (v := some (.int 1)) (hlocks := hlocks) (fun h => by rw [hr] at h; cases h)
  have hmeth' : T.vm.method? m = some meth := X.method'
  refine ⟨T.setFrames fs, ?_, .returned (some (.int 1)), hrun, hended, rfl, ⟨_, rfl⟩, hW, hframe⟩
  jvm_step X.here [X.here.top, hx, hb, hdg, hmeth', hr, ret, narrow_b1]
  (try refine ⟨rfl, ?_⟩); (try refine ⟨rfl, ?_⟩)
  first | (intro acts; rw [hret _ acts rfl rfl rfl]) | rw [hret _ _ rfl rfl rfl]
  exact Steps.refl _
/-- what holds at the law's entry: the machine, the code, the tables' words (any of lw_tbl by 'hts w (by decide +kernel)'), the script of L ints xs at the cell b, what the Statement gives of the start (any of its parts by flat_of_before) -/
def lw_At (p : Program) (s : State) (m : MethodId) (meth : Method) (c : Code) (b L : Nat) (xs : Nat → Int32) : Prop :=
  p.tables.exec = Jvm.exec ∧ c.code = code ∧ meth.sig.returnType = ret ∧ c.maxLocals = 4 ∧ s.vm.findClass R_law = some m.cls ∧ (∀ w ∈ lw_tbl, w.before #[Value.ref b] s = true) ∧ va_X b L xs s s.heap ∧ b < s.heap.size ∧ meth.locks = false ∧ (Jvm.Cond.and given_1 narrow_1).before #[Value.ref b] s = true
variable {p : Program} {l : Launch} {e : Env} {s : State} {m : MethodId} {args : Array Value} {below : List Frame} {meth : Method} {c : Code} {D : va_G} {A : Nat → Prop} {cI cL cZ : ClassId} {Q : State → Prop} {X : kX}
set_option maxRecDepth 100000 in
set_option maxHeartbeats 16000000 in
theorem law_sw (C : kC p l e room_1 s m args below meth c D (tyG cI cL cZ) A 4 code RL WS ret) (hE : kEs X A s) {b L i : Nat} {xs : Nat → Int32} (hX : kSc A s b L xs) (hin : ∀ j : Nat, j < 6 → vp_in (nI i + nI j) L) {a0 a1 a2 a3 a4 a5 a6 a7 a8 a9 a10 a11 a12 a13 a14 a15 a16 a17 a18 a19 a20 a21 a22 a23 a24 a25 a26 a27 a28 a29 a30 a31 a32 r0 r1 r2 r3 r4 r5 r6 r7 r8 r9 r10 r11 r12 r13 r14 r15 : Nat} {c_isKept : Int32} {c_now_width : Int32} {c_now_rain : Int32} {c_now_ear : Int32} {c_now_walkers : Int32} {c_now_seed : Int32} {c_now_stones : (Nat → Int32)} {c_now_kinds : (Nat → Int32)} {c_now_weights : (Nat → Int32)} {c_now_chances : (Nat → Int32)} {c_kept_width : Int32} {c_kept_rain : Int32} {c_kept_ear : Int32} {c_kept_walkers : Int32} {c_kept_seed : Int32} {c_kept_stones : (Nat → Int32)} {c_kept_kinds : (Nat → Int32)} {c_kept_weights : (Nat → Int32)} {c_kept_chances : (Nat → Int32)} {c_trial_width : Int32} {c_trial_rain : Int32} {c_trial_ear : Int32} {c_trial_walkers : Int32} {c_trial_seed : Int32} {c_trial_stones : (Nat → Int32)} {c_trial_kinds : (Nat → Int32)} {c_trial_weights : (Nat → Int32)} {c_trial_chances : (Nat → Int32)} {c_shelves_marks : (Nat → Int32)} {c_shelves_sizes : (Nat → Int32)} {c_shelves_elements : (Nat → Int64)} {c_tape_size : Int32} {c_tape_token : Int32} {c_tape_place : Int32} {c_tape_end : Int32} {c_tape_letters : (Nat → Int32)} {c_paths_width : Int32} {c_paths_steps : (Nat → Int32)} {c_paths_rest : (Nat → Int32)} {c_paths_counts : (Nat → Int32)} {c_paths_way : (Nat → Int32)} {c_paths_open : (Nat → Int32)} {c_paths_turnable : (Nat → Int32)} {c_paths_turned : (Nat → Int32)} {c_sounds : (Nat → Int64)} {c_volumes : (Nat → Int32)} {c_refusals : (Nat → Int32)} {r_n : Int32} {r_rain : Int32} {r_ear : Int32} {r_many : Int32} {r_seed : Int32} {r_taped : Int32} {r_from : Int32} {r_to : Int32} {r_token : Int32} {r_value : Int32} {r_imaged : Int32} {r_gravel : (Nat → Int32)} {r_kind : (Nat → Int32)} {r_own : (Nat → Int32)} {r_likely : (Nat → Int32)} {r_tape : (Nat → Int32)} {r_holding : (Nat → Int32)} {r_rowLength : (Nat → Int32)} {r_rowOf : (Nat → Int64)} {r_refusals : (Nat → Int32)} {r_old : (Nat → Int32)} {r_ahead : (Nat → Int32)} {r_cost : (Nat → Int32)} {r_may : (Nat → Int32)} {r_rest : (Nat → Int32)} {r_way : (Nat → Int32)} (hrel : Rel c_isKept c_now_width c_now_rain c_now_ear c_now_walkers c_now_seed c_now_stones c_now_kinds c_now_weights c_now_chances c_kept_width c_kept_rain c_kept_ear c_kept_walkers c_kept_seed c_kept_stones c_kept_kinds c_kept_weights c_kept_chances c_trial_stones c_trial_kinds c_trial_weights c_trial_chances c_shelves_marks c_shelves_sizes c_shelves_elements c_tape_size c_tape_letters c_refusals r_n r_rain r_ear r_many r_seed r_taped r_imaged r_gravel r_kind r_own r_likely r_tape r_holding r_rowLength r_rowOf r_refusals r_old) (kk : ∀ (c_isKept : Int32) (c_now_width : Int32) (c_now_rain : Int32) (c_now_ear : Int32) (c_now_walkers : Int32) (c_now_seed : Int32) (c_now_stones : (Nat → Int32)) (c_now_kinds : (Nat → Int32)) (c_now_weights : (Nat → Int32)) (c_now_chances : (Nat → Int32)) (c_kept_width : Int32) (c_kept_rain : Int32) (c_kept_ear : Int32) (c_kept_walkers : Int32) (c_kept_seed : Int32) (c_kept_stones : (Nat → Int32)) (c_kept_kinds : (Nat → Int32)) (c_kept_weights : (Nat → Int32)) (c_kept_chances : (Nat → Int32)) (c_trial_width : Int32) (c_trial_rain : Int32) (c_trial_ear : Int32) (c_trial_walkers : Int32) (c_trial_seed : Int32) (c_trial_stones : (Nat → Int32)) (c_trial_kinds : (Nat → Int32)) (c_trial_weights : (Nat → Int32)) (c_trial_chances : (Nat → Int32)) (c_shelves_marks : (Nat → Int32)) (c_shelves_sizes : (Nat → Int32)) (c_shelves_elements : (Nat → Int64)) (c_tape_size : Int32) (c_tape_token : Int32) (c_tape_place : Int32) (c_tape_end : Int32) (c_tape_letters : (Nat → Int32)) (c_paths_width : Int32) (c_paths_steps : (Nat → Int32)) (c_paths_rest : (Nat → Int32)) (c_paths_counts : (Nat → Int32)) (c_paths_way : (Nat → Int32)) (c_paths_open : (Nat → Int32)) (c_paths_turnable : (Nat → Int32)) (c_paths_turned : (Nat → Int32)) (c_sounds : (Nat → Int64)) (c_volumes : (Nat → Int32)) (c_refusals : (Nat → Int32)) (r_n : Int32) (r_rain : Int32) (r_ear : Int32) (r_many : Int32) (r_seed : Int32) (r_taped : Int32) (r_from : Int32) (r_to : Int32) (r_token : Int32) (r_value : Int32) (r_imaged : Int32) (r_gravel : (Nat → Int32)) (r_kind : (Nat → Int32)) (r_own : (Nat → Int32)) (r_likely : (Nat → Int32)) (r_tape : (Nat → Int32)) (r_holding : (Nat → Int32)) (r_rowLength : (Nat → Int32)) (r_rowOf : (Nat → Int64)) (r_refusals : (Nat → Int32)) (r_old : (Nat → Int32)) (r_ahead : (Nat → Int32)) (r_cost : (Nat → Int32)) (r_may : (Nat → Int32)) (r_rest : (Nat → Int32)) (r_way : (Nat → Int32)), Rel c_isKept c_now_width c_now_rain c_now_ear c_now_walkers c_now_seed c_now_stones c_now_kinds c_now_weights c_now_chances c_kept_width c_kept_rain c_kept_ear c_kept_walkers c_kept_seed c_kept_stones c_kept_kinds c_kept_weights c_kept_chances c_trial_stones c_trial_kinds c_trial_weights c_trial_chances c_shelves_marks c_shelves_sizes c_shelves_elements c_tape_size c_tape_letters c_refusals r_n r_rain r_ear r_many r_seed r_taped r_imaged r_gravel r_kind r_own r_likely r_tape r_holding r_rowLength r_rowOf r_refusals r_old → kG p l e room_1 s m args below meth c D A 4 49 1921 (LW cI cL cZ a0 a1 a2 a3 a4 a5 a6 a7 a8 a9 a10 a11 a12 a13 a14 a15 a16 a17 a18 a19 a20 a21 a22 a23 a24 a25 a26 a27 a28 a29 a30 a31 a32 r0 r1 r2 r3 r4 r5 r6 r7 r8 r9 r10 r11 r12 r13 r14 r15 c_isKept c_now_width c_now_rain c_now_ear c_now_walkers c_now_seed c_now_stones c_now_kinds c_now_weights c_now_chances c_kept_width c_kept_rain c_kept_ear c_kept_walkers c_kept_seed c_kept_stones c_kept_kinds c_kept_weights c_kept_chances c_trial_width c_trial_rain c_trial_ear c_trial_walkers c_trial_seed c_trial_stones c_trial_kinds c_trial_weights c_trial_chances c_shelves_marks c_shelves_sizes c_shelves_elements c_tape_size c_tape_token c_tape_place c_tape_end c_tape_letters c_paths_width c_paths_steps c_paths_rest c_paths_counts c_paths_way c_paths_open c_paths_turnable c_paths_turned c_sounds c_volumes c_refusals r_n r_rain r_ear r_many r_seed r_taped r_from r_to r_token r_value r_imaged r_gravel r_kind r_own r_likely r_tape r_holding r_rowLength r_rowOf r_refusals r_old r_ahead r_cost r_may r_rest r_way) [(3, .int (nI i)), (2, .ref r0), (1, .ref a0), (0, .ref b)] Q 1890 []) {x : Int32} : ∀ (k : Nat), k < 53 → x.toInt = (k : Int) → kG p l e room_1 s m args below meth c D A 4 49 1921 (LW cI cL cZ a0 a1 a2 a3 a4 a5 a6 a7 a8 a9 a10 a11 a12 a13 a14 a15 a16 a17 a18 a19 a20 a21 a22 a23 a24 a25 a26 a27 a28 a29 a30 a31 a32 r0 r1 r2 r3 r4 r5 r6 r7 r8 r9 r10 r11 r12 r13 r14 r15 c_isKept c_now_width c_now_rain c_now_ear c_now_walkers c_now_seed c_now_stones c_now_kinds c_now_weights c_now_chances c_kept_width c_kept_rain c_kept_ear c_kept_walkers c_kept_seed c_kept_stones c_kept_kinds c_kept_weights c_kept_chances c_trial_width c_trial_rain c_trial_ear c_trial_walkers c_trial_seed c_trial_stones c_trial_kinds c_trial_weights c_trial_chances c_shelves_marks c_shelves_sizes c_shelves_elements c_tape_size c_tape_token c_tape_place c_tape_end c_tape_letters c_paths_width c_paths_steps c_paths_rest c_paths_counts c_paths_way c_paths_open c_paths_turnable c_paths_turned c_sounds c_volumes c_refusals r_n r_rain r_ear r_many r_seed r_taped r_from r_to r_token r_value r_imaged r_gravel r_kind r_own r_likely r_tape r_holding r_rowLength r_rowOf r_refusals r_old r_ahead r_cost r_may r_rest r_way) [(3, .int (nI i)), (2, .ref r0), (1, .ref a0), (0, .ref b)] Q 33 [.int x] := fun k hk hx => match k, hk, hx with
  | 0, _, hx => by
    refine g_tableIn C (off := 227) (tgt := 260) dL_law_33 (by rw [hx]; decide) (by rw [hx]; decide) (by rw [hx]; rfl) (by decide) ?_
    exact lc_0 C hE hX hin hrel kk
  | 1, _, hx => by
    refine g_tableIn C (off := 270) (tgt := 303) dL_law_33 (by rw [hx]; decide) (by rw [hx]; decide) (by rw [hx]; rfl) (by decide) ?_
    exact lc_1 C hE hX hin hrel kk
  | 2, _, hx => by
    refine g_tableIn C (off := 343) (tgt := 376) dL_law_33 (by rw [hx]; decide) (by rw [hx]; decide) (by rw [hx]; rfl) (by decide) ?_
    exact lc_2 C hE hX hin hrel kk
  | 3, _, hx => by
    refine g_tableIn C (off := 406) (tgt := 439) dL_law_33 (by rw [hx]; decide) (by rw [hx]; decide) (by rw [hx]; rfl) (by decide) ?_
    exact lc_3 C hE hX hin hrel kk
  | 4, _, hx => by
    refine g_tableIn C (off := 440) (tgt := 473) dL_law_33 (by rw [hx]; decide) (by rw [hx]; decide) (by rw [hx]; rfl) (by decide) ?_
    exact lc_4 C hE hX hin hrel kk
  | 5, _, hx => by
    refine g_tableIn C (off := 463) (tgt := 496) dL_law_33 (by rw [hx]; decide) (by rw [hx]; decide) (by rw [hx]; rfl) (by decide) ?_
    exact lc_5 C hE hX hin hrel kk
  | 6, _, hx => by
    refine g_tableIn C (off := 496) (tgt := 529) dL_law_33 (by rw [hx]; decide) (by rw [hx]; decide) (by rw [hx]; rfl) (by decide) ?_
    exact lc_6 C hE hX hin hrel kk
  | 7, _, hx => by
    refine g_tableIn C (off := 529) (tgt := 562) dL_law_33 (by rw [hx]; decide) (by rw [hx]; decide) (by rw [hx]; rfl) (by decide) ?_
    exact lc_7 C hE hX hin hrel kk
  | 8, _, hx => by
    refine g_tableIn C (off := 552) (tgt := 585) dL_law_33 (by rw [hx]; decide) (by rw [hx]; decide) (by rw [hx]; rfl) (by decide) ?_
    exact lc_8 C hE hX hin hrel kk
  | 9, _, hx => by
    refine g_tableIn C (off := 585) (tgt := 618) dL_law_33 (by rw [hx]; decide) (by rw [hx]; decide) (by rw [hx]; rfl) (by decide) ?_
    exact lc_9 C hE hX hin hrel kk
  | 10, _, hx => by
    refine g_tableIn C (off := 618) (tgt := 651) dL_law_33 (by rw [hx]; decide) (by rw [hx]; decide) (by rw [hx]; rfl) (by decide) ?_
    exact lc_10 C hE hX hin hrel kk
  | 11, _, hx => by
    refine g_tableIn C (off := 661) (tgt := 694) dL_law_33 (by rw [hx]; decide) (by rw [hx]; decide) (by rw [hx]; rfl) (by decide) ?_
    exact lc_11 C hE hX hin hrel kk
  | 12, _, hx => by
    refine g_tableIn C (off := 684) (tgt := 717) dL_law_33 (by rw [hx]; decide) (by rw [hx]; decide) (by rw [hx]; rfl) (by decide) ?_
    exact lc_12 C hE hX hin hrel kk
  | 13, _, hx => by
    refine g_tableIn C (off := 697) (tgt := 730) dL_law_33 (by rw [hx]; decide) (by rw [hx]; decide) (by rw [hx]; rfl) (by decide) ?_
    exact lc_13 C hE hX hin hrel kk
  | 14, _, hx => by
    refine g_tableIn C (off := 710) (tgt := 743) dL_law_33 (by rw [hx]; decide) (by rw [hx]; decide) (by rw [hx]; rfl) (by decide) ?_
    exact lc_14 C hE hX hin hrel kk
  | 15, _, hx => by
    refine g_tableIn C (off := 743) (tgt := 776) dL_law_33 (by rw [hx]; decide) (by rw [hx]; decide) (by rw [hx]; rfl) (by decide) ?_
    exact lc_15 C hE hX hin hrel kk
  | 16, _, hx => by
    refine g_tableIn C (off := 776) (tgt := 809) dL_law_33 (by rw [hx]; decide) (by rw [hx]; decide) (by rw [hx]; rfl) (by decide) ?_
    exact lc_16 C hE hX hin hrel kk
  | 17, _, hx => by
    refine g_tableIn C (off := 819) (tgt := 852) dL_law_33 (by rw [hx]; decide) (by rw [hx]; decide) (by rw [hx]; rfl) (by decide) ?_
    exact lc_17 C hE hX hin hrel kk
  | 18, _, hx => by
    refine g_tableIn C (off := 852) (tgt := 885) dL_law_33 (by rw [hx]; decide) (by rw [hx]; decide) (by rw [hx]; rfl) (by decide) ?_
    exact lc_18 C hE hX hin hrel kk
  | 19, _, hx => by
    refine g_tableIn C (off := 885) (tgt := 918) dL_law_33 (by rw [hx]; decide) (by rw [hx]; decide) (by rw [hx]; rfl) (by decide) ?_
    exact lc_19 C hE hX hin hrel kk
  | 20, _, hx => by
    refine g_tableIn C (off := 918) (tgt := 951) dL_law_33 (by rw [hx]; decide) (by rw [hx]; decide) (by rw [hx]; rfl) (by decide) ?_
    exact lc_20 C hE hX hin hrel kk
  | 21, _, hx => by
    refine g_tableIn C (off := 951) (tgt := 984) dL_law_33 (by rw [hx]; decide) (by rw [hx]; decide) (by rw [hx]; rfl) (by decide) ?_
    exact lc_21 C hE hX hin hrel kk
  | 22, _, hx => by
    refine g_tableIn C (off := 994) (tgt := 1027) dL_law_33 (by rw [hx]; decide) (by rw [hx]; decide) (by rw [hx]; rfl) (by decide) ?_
    exact lc_22 C hE hX hin hrel kk
  | 23, _, hx => by
    refine g_tableIn C (off := 1017) (tgt := 1050) dL_law_33 (by rw [hx]; decide) (by rw [hx]; decide) (by rw [hx]; rfl) (by decide) ?_
    exact lc_23 C hE hX hin hrel kk
  | 24, _, hx => by
    refine g_tableIn C (off := 1040) (tgt := 1073) dL_law_33 (by rw [hx]; decide) (by rw [hx]; decide) (by rw [hx]; rfl) (by decide) ?_
    exact lc_24 C hE hX hin hrel kk
  | 25, _, hx => by
    refine g_tableIn C (off := 1093) (tgt := 1126) dL_law_33 (by rw [hx]; decide) (by rw [hx]; decide) (by rw [hx]; rfl) (by decide) ?_
    exact lc_25 C hE hX hin hrel kk
  | 26, _, hx => by
    refine g_tableIn C (off := 1146) (tgt := 1179) dL_law_33 (by rw [hx]; decide) (by rw [hx]; decide) (by rw [hx]; rfl) (by decide) ?_
    exact lc_26 C hE hX hin hrel kk
  | 27, _, hx => by
    refine g_tableIn C (off := 1199) (tgt := 1232) dL_law_33 (by rw [hx]; decide) (by rw [hx]; decide) (by rw [hx]; rfl) (by decide) ?_
    exact lc_27 C hE hX hin hrel kk
  | 28, _, hx => by
    refine g_tableIn C (off := 1232) (tgt := 1265) dL_law_33 (by rw [hx]; decide) (by rw [hx]; decide) (by rw [hx]; rfl) (by decide) ?_
    exact lc_28 C hE hX hin hrel kk
  | 29, _, hx => by
    refine g_tableIn C (off := 1245) (tgt := 1278) dL_law_33 (by rw [hx]; decide) (by rw [hx]; decide) (by rw [hx]; rfl) (by decide) ?_
    exact lc_29 C hE hX hin hrel kk
  | 30, _, hx => by
    refine g_tableIn C (off := 1268) (tgt := 1301) dL_law_33 (by rw [hx]; decide) (by rw [hx]; decide) (by rw [hx]; rfl) (by decide) ?_
    exact lc_30 C hE hX hin hrel kk
  | 31, _, hx => by
    refine g_tableIn C (off := 1291) (tgt := 1324) dL_law_33 (by rw [hx]; decide) (by rw [hx]; decide) (by rw [hx]; rfl) (by decide) ?_
    exact lc_31 C hE hX hin hrel kk
  | 32, _, hx => by
    refine g_tableIn C (off := 1314) (tgt := 1347) dL_law_33 (by rw [hx]; decide) (by rw [hx]; decide) (by rw [hx]; rfl) (by decide) ?_
    exact lc_32 C hE hX hin hrel kk
  | 33, _, hx => by
    refine g_tableIn C (off := 1337) (tgt := 1370) dL_law_33 (by rw [hx]; decide) (by rw [hx]; decide) (by rw [hx]; rfl) (by decide) ?_
    exact lc_33 C hE hX hin hrel kk
  | 34, _, hx => by
    refine g_tableIn C (off := 1350) (tgt := 1383) dL_law_33 (by rw [hx]; decide) (by rw [hx]; decide) (by rw [hx]; rfl) (by decide) ?_
    exact lc_34 C hE hX hin hrel kk
  | 35, _, hx => by
    refine g_tableIn C (off := 1373) (tgt := 1406) dL_law_33 (by rw [hx]; decide) (by rw [hx]; decide) (by rw [hx]; rfl) (by decide) ?_
    exact lc_35 C hE hX hin hrel kk
  | 36, _, hx => by
    refine g_tableIn C (off := 1416) (tgt := 1449) dL_law_33 (by rw [hx]; decide) (by rw [hx]; decide) (by rw [hx]; rfl) (by decide) ?_
    exact lc_36 C hE hX hin hrel kk
  | 37, _, hx => by
    refine g_tableIn C (off := 1439) (tgt := 1472) dL_law_33 (by rw [hx]; decide) (by rw [hx]; decide) (by rw [hx]; rfl) (by decide) ?_
    exact lc_37 C hE hX hin hrel kk
  | 38, _, hx => by
    refine g_tableIn C (off := 1472) (tgt := 1505) dL_law_33 (by rw [hx]; decide) (by rw [hx]; decide) (by rw [hx]; rfl) (by decide) ?_
    exact lc_38 C hE hX hin hrel kk
  | 39, _, hx => by
    refine g_tableIn C (off := 1495) (tgt := 1528) dL_law_33 (by rw [hx]; decide) (by rw [hx]; decide) (by rw [hx]; rfl) (by decide) ?_
    exact lc_39 C hE hX hin hrel kk
  | 40, _, hx => by
    refine g_tableIn C (off := 1518) (tgt := 1551) dL_law_33 (by rw [hx]; decide) (by rw [hx]; decide) (by rw [hx]; rfl) (by decide) ?_
    exact lc_40 C hE hX hin hrel kk
  | 41, _, hx => by
    refine g_tableIn C (off := 1541) (tgt := 1574) dL_law_33 (by rw [hx]; decide) (by rw [hx]; decide) (by rw [hx]; rfl) (by decide) ?_
    exact lc_41 C hE hX hin hrel kk
  | 42, _, hx => by
    refine g_tableIn C (off := 1564) (tgt := 1597) dL_law_33 (by rw [hx]; decide) (by rw [hx]; decide) (by rw [hx]; rfl) (by decide) ?_
    exact lc_42 C hE hX hin hrel kk
  | 43, _, hx => by
    refine g_tableIn C (off := 1597) (tgt := 1630) dL_law_33 (by rw [hx]; decide) (by rw [hx]; decide) (by rw [hx]; rfl) (by decide) ?_
    exact lc_43 C hE hX hin hrel kk
  | 44, _, hx => by
    refine g_tableIn C (off := 1630) (tgt := 1663) dL_law_33 (by rw [hx]; decide) (by rw [hx]; decide) (by rw [hx]; rfl) (by decide) ?_
    exact lc_44 C hE hX hin hrel kk
  | 45, _, hx => by
    refine g_tableIn C (off := 1683) (tgt := 1716) dL_law_33 (by rw [hx]; decide) (by rw [hx]; decide) (by rw [hx]; rfl) (by decide) ?_
    exact lc_45 C hE hX hin hrel kk
  | 46, _, hx => by
    refine g_tableIn C (off := 1726) (tgt := 1759) dL_law_33 (by rw [hx]; decide) (by rw [hx]; decide) (by rw [hx]; rfl) (by decide) ?_
    exact lc_46 C hE hX hin hrel kk
  | 47, _, hx => by
    refine g_tableIn C (off := 1739) (tgt := 1772) dL_law_33 (by rw [hx]; decide) (by rw [hx]; decide) (by rw [hx]; rfl) (by decide) ?_
    exact lc_47 C hE hX hin hrel kk
  | 48, _, hx => by
    refine g_tableIn C (off := 1762) (tgt := 1795) dL_law_33 (by rw [hx]; decide) (by rw [hx]; decide) (by rw [hx]; rfl) (by decide) ?_
    exact lc_48 C hE hX hin hrel kk
  | 49, _, hx => by
    refine g_tableIn C (off := 1785) (tgt := 1818) dL_law_33 (by rw [hx]; decide) (by rw [hx]; decide) (by rw [hx]; rfl) (by decide) ?_
    exact lc_49 C hE hX hin hrel kk
  | 50, _, hx => by
    refine g_tableIn C (off := 1808) (tgt := 1841) dL_law_33 (by rw [hx]; decide) (by rw [hx]; decide) (by rw [hx]; rfl) (by decide) ?_
    exact lc_50 C hE hX hin hrel kk
  | 51, _, hx => by
    refine g_tableIn C (off := 1821) (tgt := 1854) dL_law_33 (by rw [hx]; decide) (by rw [hx]; decide) (by rw [hx]; rfl) (by decide) ?_
    exact lc_51 C hE hX hin hrel kk
  | 52, _, hx => by
    refine g_tableIn C (off := 1834) (tgt := 1867) dL_law_33 (by rw [hx]; decide) (by rw [hx]; decide) (by rw [hx]; rfl) (by decide) ?_
    exact lc_52 C hE hX hin hrel kk
  | k + 53, h, _ => absurd h (by omega)
set_option maxRecDepth 100000 in
set_option maxHeartbeats 16000000 in
theorem law_loop (C : kC p l e room_1 s m args below meth c D (tyG cI cL cZ) A 4 code RL WS ret) (hE : kEs X A s) {b L : Nat} {xs : Nat → Int32} (hX : kSc A s b L xs) (hL : L ≤ 3072) {a0 a1 a2 a3 a4 a5 a6 a7 a8 a9 a10 a11 a12 a13 a14 a15 a16 a17 a18 a19 a20 a21 a22 a23 a24 a25 a26 a27 a28 a29 a30 a31 a32 r0 r1 r2 r3 r4 r5 r6 r7 r8 r9 r10 r11 r12 r13 r14 r15 : Nat}
    (kx : ∀ (c_isKept : Int32) (c_now_width : Int32) (c_now_rain : Int32) (c_now_ear : Int32) (c_now_walkers : Int32) (c_now_seed : Int32) (c_now_stones : (Nat → Int32)) (c_now_kinds : (Nat → Int32)) (c_now_weights : (Nat → Int32)) (c_now_chances : (Nat → Int32)) (c_kept_width : Int32) (c_kept_rain : Int32) (c_kept_ear : Int32) (c_kept_walkers : Int32) (c_kept_seed : Int32) (c_kept_stones : (Nat → Int32)) (c_kept_kinds : (Nat → Int32)) (c_kept_weights : (Nat → Int32)) (c_kept_chances : (Nat → Int32)) (c_trial_width : Int32) (c_trial_rain : Int32) (c_trial_ear : Int32) (c_trial_walkers : Int32) (c_trial_seed : Int32) (c_trial_stones : (Nat → Int32)) (c_trial_kinds : (Nat → Int32)) (c_trial_weights : (Nat → Int32)) (c_trial_chances : (Nat → Int32)) (c_shelves_marks : (Nat → Int32)) (c_shelves_sizes : (Nat → Int32)) (c_shelves_elements : (Nat → Int64)) (c_tape_size : Int32) (c_tape_token : Int32) (c_tape_place : Int32) (c_tape_end : Int32) (c_tape_letters : (Nat → Int32)) (c_paths_width : Int32) (c_paths_steps : (Nat → Int32)) (c_paths_rest : (Nat → Int32)) (c_paths_counts : (Nat → Int32)) (c_paths_way : (Nat → Int32)) (c_paths_open : (Nat → Int32)) (c_paths_turnable : (Nat → Int32)) (c_paths_turned : (Nat → Int32)) (c_sounds : (Nat → Int64)) (c_volumes : (Nat → Int32)) (c_refusals : (Nat → Int32)) (r_n : Int32) (r_rain : Int32) (r_ear : Int32) (r_many : Int32) (r_seed : Int32) (r_taped : Int32) (r_from : Int32) (r_to : Int32) (r_token : Int32) (r_value : Int32) (r_imaged : Int32) (r_gravel : (Nat → Int32)) (r_kind : (Nat → Int32)) (r_own : (Nat → Int32)) (r_likely : (Nat → Int32)) (r_tape : (Nat → Int32)) (r_holding : (Nat → Int32)) (r_rowLength : (Nat → Int32)) (r_rowOf : (Nat → Int64)) (r_refusals : (Nat → Int32)) (r_old : (Nat → Int32)) (r_ahead : (Nat → Int32)) (r_cost : (Nat → Int32)) (r_may : (Nat → Int32)) (r_rest : (Nat → Int32)) (r_way : (Nat → Int32)) (lv : List (Nat × Value)), kG p l e room_1 s m args below meth c D A 4 49 1921 (LW cI cL cZ a0 a1 a2 a3 a4 a5 a6 a7 a8 a9 a10 a11 a12 a13 a14 a15 a16 a17 a18 a19 a20 a21 a22 a23 a24 a25 a26 a27 a28 a29 a30 a31 a32 r0 r1 r2 r3 r4 r5 r6 r7 r8 r9 r10 r11 r12 r13 r14 r15 c_isKept c_now_width c_now_rain c_now_ear c_now_walkers c_now_seed c_now_stones c_now_kinds c_now_weights c_now_chances c_kept_width c_kept_rain c_kept_ear c_kept_walkers c_kept_seed c_kept_stones c_kept_kinds c_kept_weights c_kept_chances c_trial_width c_trial_rain c_trial_ear c_trial_walkers c_trial_seed c_trial_stones c_trial_kinds c_trial_weights c_trial_chances c_shelves_marks c_shelves_sizes c_shelves_elements c_tape_size c_tape_token c_tape_place c_tape_end c_tape_letters c_paths_width c_paths_steps c_paths_rest c_paths_counts c_paths_way c_paths_open c_paths_turnable c_paths_turned c_sounds c_volumes c_refusals r_n r_rain r_ear r_many r_seed r_taped r_from r_to r_token r_value r_imaged r_gravel r_kind r_own r_likely r_tape r_holding r_rowLength r_rowOf r_refusals r_old r_ahead r_cost r_may r_rest r_way) lv Q 1896 []) : ∀ (n i : Nat), i ≤ 3072 → L < i + n → ∀ (c_isKept : Int32), ∀ (c_now_width : Int32), ∀ (c_now_rain : Int32), ∀ (c_now_ear : Int32), ∀ (c_now_walkers : Int32), ∀ (c_now_seed : Int32), ∀ (c_now_stones : (Nat → Int32)), ∀ (c_now_kinds : (Nat → Int32)), ∀ (c_now_weights : (Nat → Int32)), ∀ (c_now_chances : (Nat → Int32)), ∀ (c_kept_width : Int32), ∀ (c_kept_rain : Int32), ∀ (c_kept_ear : Int32), ∀ (c_kept_walkers : Int32), ∀ (c_kept_seed : Int32), ∀ (c_kept_stones : (Nat → Int32)), ∀ (c_kept_kinds : (Nat → Int32)), ∀ (c_kept_weights : (Nat → Int32)), ∀ (c_kept_chances : (Nat → Int32)), ∀ (c_trial_width : Int32), ∀ (c_trial_rain : Int32), ∀ (c_trial_ear : Int32), ∀ (c_trial_walkers : Int32), ∀ (c_trial_seed : Int32), ∀ (c_trial_stones : (Nat → Int32)), ∀ (c_trial_kinds : (Nat → Int32)), ∀ (c_trial_weights : (Nat → Int32)), ∀ (c_trial_chances : (Nat → Int32)), ∀ (c_shelves_marks : (Nat → Int32)), ∀ (c_shelves_sizes : (Nat → Int32)), ∀ (c_shelves_elements : (Nat → Int64)), ∀ (c_tape_size : Int32), ∀ (c_tape_token : Int32), ∀ (c_tape_place : Int32), ∀ (c_tape_end : Int32), ∀ (c_tape_letters : (Nat → Int32)), ∀ (c_paths_width : Int32), ∀ (c_paths_steps : (Nat → Int32)), ∀ (c_paths_rest : (Nat → Int32)), ∀ (c_paths_counts : (Nat → Int32)), ∀ (c_paths_way : (Nat → Int32)), ∀ (c_paths_open : (Nat → Int32)), ∀ (c_paths_turnable : (Nat → Int32)), ∀ (c_paths_turned : (Nat → Int32)), ∀ (c_sounds : (Nat → Int64)), ∀ (c_volumes : (Nat → Int32)), ∀ (c_refusals : (Nat → Int32)), ∀ (r_n : Int32), ∀ (r_rain : Int32), ∀ (r_ear : Int32), ∀ (r_many : Int32), ∀ (r_seed : Int32), ∀ (r_taped : Int32), ∀ (r_from : Int32), ∀ (r_to : Int32), ∀ (r_token : Int32), ∀ (r_value : Int32), ∀ (r_imaged : Int32), ∀ (r_gravel : (Nat → Int32)), ∀ (r_kind : (Nat → Int32)), ∀ (r_own : (Nat → Int32)), ∀ (r_likely : (Nat → Int32)), ∀ (r_tape : (Nat → Int32)), ∀ (r_holding : (Nat → Int32)), ∀ (r_rowLength : (Nat → Int32)), ∀ (r_rowOf : (Nat → Int64)), ∀ (r_refusals : (Nat → Int32)), ∀ (r_old : (Nat → Int32)), ∀ (r_ahead : (Nat → Int32)), ∀ (r_cost : (Nat → Int32)), ∀ (r_may : (Nat → Int32)), ∀ (r_rest : (Nat → Int32)), ∀ (r_way : (Nat → Int32)), Rel c_isKept c_now_width c_now_rain c_now_ear c_now_walkers c_now_seed c_now_stones c_now_kinds c_now_weights c_now_chances c_kept_width c_kept_rain c_kept_ear c_kept_walkers c_kept_seed c_kept_stones c_kept_kinds c_kept_weights c_kept_chances c_trial_stones c_trial_kinds c_trial_weights c_trial_chances c_shelves_marks c_shelves_sizes c_shelves_elements c_tape_size c_tape_letters c_refusals r_n r_rain r_ear r_many r_seed r_taped r_imaged r_gravel r_kind r_own r_likely r_tape r_holding r_rowLength r_rowOf r_refusals r_old → kG p l e room_1 s m args below meth c D A 4 49 1921 (LW cI cL cZ a0 a1 a2 a3 a4 a5 a6 a7 a8 a9 a10 a11 a12 a13 a14 a15 a16 a17 a18 a19 a20 a21 a22 a23 a24 a25 a26 a27 a28 a29 a30 a31 a32 r0 r1 r2 r3 r4 r5 r6 r7 r8 r9 r10 r11 r12 r13 r14 r15 c_isKept c_now_width c_now_rain c_now_ear c_now_walkers c_now_seed c_now_stones c_now_kinds c_now_weights c_now_chances c_kept_width c_kept_rain c_kept_ear c_kept_walkers c_kept_seed c_kept_stones c_kept_kinds c_kept_weights c_kept_chances c_trial_width c_trial_rain c_trial_ear c_trial_walkers c_trial_seed c_trial_stones c_trial_kinds c_trial_weights c_trial_chances c_shelves_marks c_shelves_sizes c_shelves_elements c_tape_size c_tape_token c_tape_place c_tape_end c_tape_letters c_paths_width c_paths_steps c_paths_rest c_paths_counts c_paths_way c_paths_open c_paths_turnable c_paths_turned c_sounds c_volumes c_refusals r_n r_rain r_ear r_many r_seed r_taped r_from r_to r_token r_value r_imaged r_gravel r_kind r_own r_likely r_tape r_holding r_rowLength r_rowOf r_refusals r_old r_ahead r_cost r_may r_rest r_way) [(3, .int (nI i)), (2, .ref r0), (1, .ref a0), (0, .ref b)] Q 18 [] := by
  intro n
  induction n with
  | zero =>
    intro i hi hn c_isKept c_now_width c_now_rain c_now_ear c_now_walkers c_now_seed c_now_stones c_now_kinds c_now_weights c_now_chances c_kept_width c_kept_rain c_kept_ear c_kept_walkers c_kept_seed c_kept_stones c_kept_kinds c_kept_weights c_kept_chances c_trial_width c_trial_rain c_trial_ear c_trial_walkers c_trial_seed c_trial_stones c_trial_kinds c_trial_weights c_trial_chances c_shelves_marks c_shelves_sizes c_shelves_elements c_tape_size c_tape_token c_tape_place c_tape_end c_tape_letters c_paths_width c_paths_steps c_paths_rest c_paths_counts c_paths_way c_paths_open c_paths_turnable c_paths_turned c_sounds c_volumes c_refusals r_n r_rain r_ear r_many r_seed r_taped r_from r_to r_token r_value r_imaged r_gravel r_kind r_own r_likely r_tape r_holding r_rowLength r_rowOf r_refusals r_old r_ahead r_cost r_may r_rest r_way hrel
    refine g_iload_n C dL_law_18 0 rfl rfl ?_
    refine g_aload_n C dL_law_19 3 rfl rfl ?_
    refine g_slen C hX dL_law_20 ?_
    refine g_bipush C (v := (6 : Int32)) dL_law_21 (by decide) ?_
    refine g_isub C dL_law_23 ?_
    refine g_icmp_gt C (tgt := 1896) dL_law_24 (by decide) (fun _ => kx c_isKept c_now_width c_now_rain c_now_ear c_now_walkers c_now_seed c_now_stones c_now_kinds c_now_weights c_now_chances c_kept_width c_kept_rain c_kept_ear c_kept_walkers c_kept_seed c_kept_stones c_kept_kinds c_kept_weights c_kept_chances c_trial_width c_trial_rain c_trial_ear c_trial_walkers c_trial_seed c_trial_stones c_trial_kinds c_trial_weights c_trial_chances c_shelves_marks c_shelves_sizes c_shelves_elements c_tape_size c_tape_token c_tape_place c_tape_end c_tape_letters c_paths_width c_paths_steps c_paths_rest c_paths_counts c_paths_way c_paths_open c_paths_turnable c_paths_turned c_sounds c_volumes c_refusals r_n r_rain r_ear r_many r_seed r_taped r_from r_to r_token r_value r_imaged r_gravel r_kind r_own r_likely r_tape r_holding r_rowLength r_rowOf r_refusals r_old r_ahead r_cost r_may r_rest r_way _) (fun z => absurd ?_ z)
    rw [← iz_nat, ← iz_nat, l_6, iz_sub, iz_lt (by omega) (by omega)]
    omega
  | succ n ih =>
    intro i hi hn c_isKept c_now_width c_now_rain c_now_ear c_now_walkers c_now_seed c_now_stones c_now_kinds c_now_weights c_now_chances c_kept_width c_kept_rain c_kept_ear c_kept_walkers c_kept_seed c_kept_stones c_kept_kinds c_kept_weights c_kept_chances c_trial_width c_trial_rain c_trial_ear c_trial_walkers c_trial_seed c_trial_stones c_trial_kinds c_trial_weights c_trial_chances c_shelves_marks c_shelves_sizes c_shelves_elements c_tape_size c_tape_token c_tape_place c_tape_end c_tape_letters c_paths_width c_paths_steps c_paths_rest c_paths_counts c_paths_way c_paths_open c_paths_turnable c_paths_turned c_sounds c_volumes c_refusals r_n r_rain r_ear r_many r_seed r_taped r_from r_to r_token r_value r_imaged r_gravel r_kind r_own r_likely r_tape r_holding r_rowLength r_rowOf r_refusals r_old r_ahead r_cost r_may r_rest r_way hrel
    refine g_iload_n C dL_law_18 0 rfl rfl ?_
    refine g_aload_n C dL_law_19 3 rfl rfl ?_
    refine g_slen C hX dL_law_20 ?_
    refine g_bipush C (v := (6 : Int32)) dL_law_21 (by decide) ?_
    refine g_isub C dL_law_23 ?_
    refine g_icmp_gt C (tgt := 1896) dL_law_24 (by decide) (fun _ => kx c_isKept c_now_width c_now_rain c_now_ear c_now_walkers c_now_seed c_now_stones c_now_kinds c_now_weights c_now_chances c_kept_width c_kept_rain c_kept_ear c_kept_walkers c_kept_seed c_kept_stones c_kept_kinds c_kept_weights c_kept_chances c_trial_width c_trial_rain c_trial_ear c_trial_walkers c_trial_seed c_trial_stones c_trial_kinds c_trial_weights c_trial_chances c_shelves_marks c_shelves_sizes c_shelves_elements c_tape_size c_tape_token c_tape_place c_tape_end c_tape_letters c_paths_width c_paths_steps c_paths_rest c_paths_counts c_paths_way c_paths_open c_paths_turnable c_paths_turned c_sounds c_volumes c_refusals r_n r_rain r_ear r_many r_seed r_taped r_from r_to r_token r_value r_imaged r_gravel r_kind r_own r_likely r_tape r_holding r_rowLength r_rowOf r_refusals r_old r_ahead r_cost r_may r_rest r_way _) (fun z => ?_)
    have hi6 : i + 6 ≤ L := by
      rw [← iz_nat, ← iz_nat, l_6, iz_sub, iz_lt (by omega) (by omega)] at z
      omega
    have hin : ∀ j : Nat, j < 6 → vp_in (nI i + nI j) L := by
      intro j hj
      rw [← iz_nat, ← iz_nat, iz_add]
      exact iz_in (by omega) (by omega)
    refine g_aload_n C dL_law_27 3 rfl rfl ?_
    refine g_iload_n C dL_law_28 0 rfl rfl ?_
    refine g_sld C hX (by rw [← iz_nat]; exact iz_in (by omega) (by omega)) dL_law_29 ?_
    refine g_bipush C (v := (63 : Int32)) dL_law_30 (by decide) ?_
    refine g_iand C dL_law_32 ?_
    have kk : ∀ (c_isKept : Int32) (c_now_width : Int32) (c_now_rain : Int32) (c_now_ear : Int32) (c_now_walkers : Int32) (c_now_seed : Int32) (c_now_stones : (Nat → Int32)) (c_now_kinds : (Nat → Int32)) (c_now_weights : (Nat → Int32)) (c_now_chances : (Nat → Int32)) (c_kept_width : Int32) (c_kept_rain : Int32) (c_kept_ear : Int32) (c_kept_walkers : Int32) (c_kept_seed : Int32) (c_kept_stones : (Nat → Int32)) (c_kept_kinds : (Nat → Int32)) (c_kept_weights : (Nat → Int32)) (c_kept_chances : (Nat → Int32)) (c_trial_width : Int32) (c_trial_rain : Int32) (c_trial_ear : Int32) (c_trial_walkers : Int32) (c_trial_seed : Int32) (c_trial_stones : (Nat → Int32)) (c_trial_kinds : (Nat → Int32)) (c_trial_weights : (Nat → Int32)) (c_trial_chances : (Nat → Int32)) (c_shelves_marks : (Nat → Int32)) (c_shelves_sizes : (Nat → Int32)) (c_shelves_elements : (Nat → Int64)) (c_tape_size : Int32) (c_tape_token : Int32) (c_tape_place : Int32) (c_tape_end : Int32) (c_tape_letters : (Nat → Int32)) (c_paths_width : Int32) (c_paths_steps : (Nat → Int32)) (c_paths_rest : (Nat → Int32)) (c_paths_counts : (Nat → Int32)) (c_paths_way : (Nat → Int32)) (c_paths_open : (Nat → Int32)) (c_paths_turnable : (Nat → Int32)) (c_paths_turned : (Nat → Int32)) (c_sounds : (Nat → Int64)) (c_volumes : (Nat → Int32)) (c_refusals : (Nat → Int32)) (r_n : Int32) (r_rain : Int32) (r_ear : Int32) (r_many : Int32) (r_seed : Int32) (r_taped : Int32) (r_from : Int32) (r_to : Int32) (r_token : Int32) (r_value : Int32) (r_imaged : Int32) (r_gravel : (Nat → Int32)) (r_kind : (Nat → Int32)) (r_own : (Nat → Int32)) (r_likely : (Nat → Int32)) (r_tape : (Nat → Int32)) (r_holding : (Nat → Int32)) (r_rowLength : (Nat → Int32)) (r_rowOf : (Nat → Int64)) (r_refusals : (Nat → Int32)) (r_old : (Nat → Int32)) (r_ahead : (Nat → Int32)) (r_cost : (Nat → Int32)) (r_may : (Nat → Int32)) (r_rest : (Nat → Int32)) (r_way : (Nat → Int32)), Rel c_isKept c_now_width c_now_rain c_now_ear c_now_walkers c_now_seed c_now_stones c_now_kinds c_now_weights c_now_chances c_kept_width c_kept_rain c_kept_ear c_kept_walkers c_kept_seed c_kept_stones c_kept_kinds c_kept_weights c_kept_chances c_trial_stones c_trial_kinds c_trial_weights c_trial_chances c_shelves_marks c_shelves_sizes c_shelves_elements c_tape_size c_tape_letters c_refusals r_n r_rain r_ear r_many r_seed r_taped r_imaged r_gravel r_kind r_own r_likely r_tape r_holding r_rowLength r_rowOf r_refusals r_old → kG p l e room_1 s m args below meth c D A 4 49 1921 (LW cI cL cZ a0 a1 a2 a3 a4 a5 a6 a7 a8 a9 a10 a11 a12 a13 a14 a15 a16 a17 a18 a19 a20 a21 a22 a23 a24 a25 a26 a27 a28 a29 a30 a31 a32 r0 r1 r2 r3 r4 r5 r6 r7 r8 r9 r10 r11 r12 r13 r14 r15 c_isKept c_now_width c_now_rain c_now_ear c_now_walkers c_now_seed c_now_stones c_now_kinds c_now_weights c_now_chances c_kept_width c_kept_rain c_kept_ear c_kept_walkers c_kept_seed c_kept_stones c_kept_kinds c_kept_weights c_kept_chances c_trial_width c_trial_rain c_trial_ear c_trial_walkers c_trial_seed c_trial_stones c_trial_kinds c_trial_weights c_trial_chances c_shelves_marks c_shelves_sizes c_shelves_elements c_tape_size c_tape_token c_tape_place c_tape_end c_tape_letters c_paths_width c_paths_steps c_paths_rest c_paths_counts c_paths_way c_paths_open c_paths_turnable c_paths_turned c_sounds c_volumes c_refusals r_n r_rain r_ear r_many r_seed r_taped r_from r_to r_token r_value r_imaged r_gravel r_kind r_own r_likely r_tape r_holding r_rowLength r_rowOf r_refusals r_old r_ahead r_cost r_may r_rest r_way) [(3, .int (nI i)), (2, .ref r0), (1, .ref a0), (0, .ref b)] Q 1890 [] := by
      intro c_isKept c_now_width c_now_rain c_now_ear c_now_walkers c_now_seed c_now_stones c_now_kinds c_now_weights c_now_chances c_kept_width c_kept_rain c_kept_ear c_kept_walkers c_kept_seed c_kept_stones c_kept_kinds c_kept_weights c_kept_chances c_trial_width c_trial_rain c_trial_ear c_trial_walkers c_trial_seed c_trial_stones c_trial_kinds c_trial_weights c_trial_chances c_shelves_marks c_shelves_sizes c_shelves_elements c_tape_size c_tape_token c_tape_place c_tape_end c_tape_letters c_paths_width c_paths_steps c_paths_rest c_paths_counts c_paths_way c_paths_open c_paths_turnable c_paths_turned c_sounds c_volumes c_refusals r_n r_rain r_ear r_many r_seed r_taped r_from r_to r_token r_value r_imaged r_gravel r_kind r_own r_likely r_tape r_holding r_rowLength r_rowOf r_refusals r_old r_ahead r_cost r_may r_rest r_way hrel2
      refine g_iinc C (v := nI (i + 6)) (lv' := [(3, .int (nI (i + 6))), (2, .ref r0), (1, .ref a0), (0, .ref b)]) dL_law_1890 0 rfl (by rw [← iz_nat, ← iz_nat, show Int32.ofInt 6 = iz 6 from rfl, iz_add]; rfl) (by decide) rfl ?_
      refine g_goto C (tgt := 18) dL_law_1893 (by decide) ?_
      exact ih (i + 6) (by omega) (by omega) c_isKept c_now_width c_now_rain c_now_ear c_now_walkers c_now_seed c_now_stones c_now_kinds c_now_weights c_now_chances c_kept_width c_kept_rain c_kept_ear c_kept_walkers c_kept_seed c_kept_stones c_kept_kinds c_kept_weights c_kept_chances c_trial_width c_trial_rain c_trial_ear c_trial_walkers c_trial_seed c_trial_stones c_trial_kinds c_trial_weights c_trial_chances c_shelves_marks c_shelves_sizes c_shelves_elements c_tape_size c_tape_token c_tape_place c_tape_end c_tape_letters c_paths_width c_paths_steps c_paths_rest c_paths_counts c_paths_way c_paths_open c_paths_turnable c_paths_turned c_sounds c_volumes c_refusals r_n r_rain r_ear r_many r_seed r_taped r_from r_to r_token r_value r_imaged r_gravel r_kind r_own r_likely r_tape r_holding r_rowLength r_rowOf r_refusals r_old r_ahead r_cost r_may r_rest r_way hrel2
    generalize xs (nI i).toNatClampNeg &&& 63 = x
    by_cases hx : x.toInt < 0 ∨ 52 < x.toInt
    · exact g_tableOut C (tgt := 1890) dL_law_33 hx (by decide) (kk c_isKept c_now_width c_now_rain c_now_ear c_now_walkers c_now_seed c_now_stones c_now_kinds c_now_weights c_now_chances c_kept_width c_kept_rain c_kept_ear c_kept_walkers c_kept_seed c_kept_stones c_kept_kinds c_kept_weights c_kept_chances c_trial_width c_trial_rain c_trial_ear c_trial_walkers c_trial_seed c_trial_stones c_trial_kinds c_trial_weights c_trial_chances c_shelves_marks c_shelves_sizes c_shelves_elements c_tape_size c_tape_token c_tape_place c_tape_end c_tape_letters c_paths_width c_paths_steps c_paths_rest c_paths_counts c_paths_way c_paths_open c_paths_turnable c_paths_turned c_sounds c_volumes c_refusals r_n r_rain r_ear r_many r_seed r_taped r_from r_to r_token r_value r_imaged r_gravel r_kind r_own r_likely r_tape r_holding r_rowLength r_rowOf r_refusals r_old r_ahead r_cost r_may r_rest r_way hrel)
    · exact law_sw C hE hX hin hrel kk x.toInt.toNat (by omega) (by omega)

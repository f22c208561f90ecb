theorem ar_0 : (fun _ => 0 : Nat → Int32) = ar (fun _ => 0) := rfl
theorem fillto_ar (k : Nat) (v : Int) : fillto k (iz v) = ar (fun j => if j < k then v else 0) := by
  funext j
  show (if j < k then iz v else 0) = iz (if j < k then v else 0)
  split <;> rfl
theorem z_z (a : Int) (h : 0 ≤ a) (j : Nat) : 0 ≤ (fun _ : Nat => (0 : Int)) j ∧ (fun _ : Nat => (0 : Int)) j ≤ a := ⟨Int.le_refl 0, h⟩
theorem Iv_0 : Iv 4 0 4 0 (fun j => if j < 36 then 3 else 0) (fun _ => 0) (fun _ => 0) (fun _ => 0) := by
  refine ⟨by omega, by omega, by omega, by omega, fun j => ?_, z_z 5 (by omega), z_z 9 (by omega), z_z 99 (by omega), fun j h => by omega, fun j h => ?_, fun j h => ⟨rfl, rfl, rfl⟩⟩
  · show 0 ≤ (if j < 36 then (3 : Int) else 0) ∧ (if j < 36 then (3 : Int) else 0) ≤ 9
    split <;> omega
  · show (if j < 36 then (3 : Int) else 0) = 0
    rw [if_neg (by omega)]
theorem Rel_0 : Rel 0 4 0 4 0 1 st3 (fun _ => 0) (fun _ => 0) (fun _ => 0) 4 0 4 0 1 st3 (fun _ => 0) (fun _ => 0) (fun _ => 0) st3 (fun _ => 0) (fun _ => 0) (fun _ => 0) (fillto 8 (-1)) (fun _ => 0) (fun _ => 0) 0 (fun _ => 0) (fun _ => 0) 4 0 4 0 1 0 0 (fillto 36 3) (fun _ => 0) (fun _ => 0) (fun _ => 0) (fun _ => 0) (fillto 8 (-1)) (fun _ => 0) (fun _ => 0) (fun _ => 0) (fun _ => 0) := by
  have hs : st3 = ar (fun j => if j < 36 then 3 else 0) := fillto_ar 36 3
  have hm : fillto 8 (-1) = ar (fun j => if j < 8 then -1 else 0) := by
    rw [l_m1]
    exact fillto_ar 8 (-1)
  refine ⟨4, 0, 4, 0, _, fun _ => 0, fun _ => 0, fun _ => 0, ⟨rfl, rfl, rfl, rfl, hs, rfl, rfl, rfl⟩, ⟨rfl, rfl, rfl, rfl, hs, rfl, rfl, rfl⟩, rfl, Iv_0, ⟨_, fun _ => 0, fun _ => 0, hm, hm, rfl, rfl, ?_⟩, fun j _ => rfl, ⟨0, fun _ => 0, by omega, z_z 255 (by omega), rfl, rfl, rfl, rfl⟩, ⟨4, 0, 4, 0, _, fun _ => 0, fun _ => 0, fun _ => 0, ⟨rfl, rfl, rfl, rfl, hs, rfl, rfl, rfl⟩, Iv_0, rfl, Or.inl rfl⟩, ?_⟩
  · intro q hq
    refine Or.inl ⟨?_, rfl⟩
    show (if q < 8 then (-1 : Int) else 0) = -1
    rw [if_pos hq]
  · refine ⟨fun j h => ?_, fun j h => ⟨rfl, rfl, rfl⟩⟩
    show fillto 36 3 j = 0
    unfold fillto
    rw [if_neg (by omega)]
set_option maxRecDepth 100000 in
set_option maxHeartbeats 16000000 in
theorem whole_start {p : Program} {e : Env} {s : State} {m : MethodId} {below : List Frame} {meth : Method} {c : Code} (l : Launch) (hflags : l.flags = flags0) {b L : Nat} {xs : Nat → Int32} (hL : L ≤ 3072) (C0 : lw_At p s m meth c b L xs) : W p l e room_1 s m #[Value.ref b] below meth c s.heap [] 0 0 (lw_Z below #[Value.ref b] s) (entryFrame m ([Value.ref b] : List Value).toArray 4) := by
  obtain ⟨hx, hb, hr, hml, hown, hts, hXX, hbl, hlocks, hgv⟩ := id C0
  have htw : ∀ w ∈ WS, w.before #[Value.ref b] s = true := fun w h => hts w (WS_tbl h)
  obtain ⟨c0, i0, hK0⟩ := u_known (C := RX0) (T := TX0) (N := 9) (n := 9) htw us_D (htw _ we_12)
  obtain ⟨c1, i1, hK1⟩ := u_known (C := RX1) (T := TX1) (N := 8) (n := 8) htw us_P (htw _ we_13)
  obtain ⟨c2, i2, hK2⟩ := u_known (C := RX2) (T := TX2) (N := 3) (n := 3) htw us_S (htw _ we_14)
  obtain ⟨c3, i3, hK3⟩ := u_known (C := RX3) (T := TX3) (N := 5) (n := 5) htw us_T (htw _ we_15)
  obtain ⟨c4, i4, hK4⟩ := u_known (C := RX4) (T := TX4) (N := 10) (n := 10) htw us_M (htw _ we_9)
  obtain ⟨c5, i5, hK5⟩ := u_known (C := RX5) (T := TX5) (N := 26) (n := 26) htw us_R (htw _ we_11)
  obtain ⟨cI, aI, bI⟩ := arrK (htw _ we_16)
  obtain ⟨cL, aL, bL⟩ := arrK (htw _ we_17)
  obtain ⟨cZ, aZ, bZ⟩ := arrK (htw _ we_18)
  obtain ⟨X, hE, hNst⟩ := env_is hts hgv
  obtain ⟨D, C⟩ : ∃ D : va_G, kC p l e room_1 s m #[Value.ref b] below meth c D (tyG cI cL cZ) (fun q : Nat => s.heap.size ≤ q) 4 code RL WS ret := by
    refine ⟨(fun k => if k = 0 then c0 else if k = 1 then c1 else if k = 2 then c2 else if k = 3 then c3 else if k = 4 then c4 else c5, fun k => if k = 0 then i0 else if k = 1 then i1 else if k = 2 then i2 else if k = 3 then i3 else if k = 4 then i4 else i5), hx, hb, hml, hown, htw, ⟨?_, ?_⟩, fun _ h => h, hlocks, hr⟩
    · intro k q hq
      match k, hq with
      | 0, hq => cases hq; exact hK0
      | 1, hq => cases hq; exact hK1
      | 2, hq => cases hq; exact hK2
      | 3, hq => cases hq; exact hK3
      | 4, hq => cases hq; exact hK4
      | 5, hq => cases hq; exact hK5
      | k + 6, hq => simp [classes] at hq
    · intro k q hq
      match k, hq with
      | 0, hq => cases hq; exact ⟨aI, bI⟩
      | 1, hq => cases hq; exact ⟨aL, bL⟩
      | 2, hq => cases hq; exact ⟨aZ, bZ⟩
      | k + 3, hq => simp [tyG] at hq
  have hXc : kSc (fun q : Nat => s.heap.size ≤ q) s b L xs := ⟨hXX, hbl, Nat.not_le.mpr hbl⟩
  have key : kG p l e room_1 s m #[Value.ref b] below meth c D (fun q : Nat => s.heap.size ≤ q) 4 0 0 [] [(0, .ref b)] (lw_Z below #[Value.ref b] s) 0 [] := by
    refine g_new C (own' := RL) (C0 := RX4) (T := TX4) (N := 10) (ci := 4) (fs := [.null, .null, .null, .null, .null, .null, .null, .null, .null, .int 0]) us_M tyX4 tyX4_ok we_8 we_9 we_2 rfl (by decide) (Nat.le_of_ble_eq_true rfl) (Nat.le_of_ble_eq_true rfl) dL_law_0 (fun q1 => ?_)
    show kG p l e room_1 s m _ below meth c D _ 4 _ _ [(q1, .inr (4, [.null, .null, .null, .null, .null, .null, .null, .null, .null, .int 0]))] _ _ 3 _
    refine g_dup C dL_law_3 rfl ?_
    refine g_calln C (wc := [(q1, .inr (4, [.null, .null, .null, .null, .null, .null, .null, .null, .null, .int 0]))]) (wr := []) [0] [] (fun H locs ls hP hD hS hF hz => grunI C (cn_M l D cI cL cZ H.size q1) (cwI 0 C.2.2.2.2.1 (gWL we_0) rfl rfl rfl (C.2.2.2.2.1 _ we_2) (C.2.2.2.2.1 _ we_3) (C.2.2.2.2.1 _ we_4) rfl (by decide +kernel) ⟨Nat.le_of_ble_eq_true rfl, Nat.le_of_ble_eq_true rfl⟩) (kNst_env hNst) rfl rfl (Nat.le_of_ble_eq_true rfl) dL_law_4 ⟨Nat.le_of_ble_eq_true rfl, Nat.le_of_ble_eq_true rfl⟩ hP hD hz) rfl (by decide) rfl (by decide) (by decide) (fun u => ?_)
    refine g_astore_n C (lv' := [(1, .ref q1), (0, .ref b)]) dL_law_7 rfl (by decide) rfl ?_
    refine g_new C (own' := RL) (C0 := RX5) (T := TX5) (N := 26) (ci := 5) (fs := [.int 0, .null, .int 0, .int 0, .int 0, .null, .null, .null, .int 0, .int 0, .null, .int 0, .int 0, .int 0, .int 0, .null, .null, .null, .null, .int 0, .null, .null, .null, .null, .null, .null]) us_R tyX5 tyX5_ok we_10 we_11 we_5 rfl (by decide) (Nat.le_of_ble_eq_true rfl) (Nat.le_of_ble_eq_true rfl) dL_law_8 (fun q2 => ?_)
    refine g_dup C dL_law_11 rfl ?_
    refine g_calln C (wc := [(q2, .inr (5, [.int 0, .null, .int 0, .int 0, .int 0, .null, .null, .null, .int 0, .int 0, .null, .int 0, .int 0, .int 0, .int 0, .null, .null, .null, .null, .int 0, .null, .null, .null, .null, .null, .null]))]) (wr := (F_M cI cL cZ q1 u)) [33] [0, 1, 2, 3, 4, 5, 6, 7, 8, 9, 10, 11, 12, 13, 14, 15, 16, 17, 18, 19, 20, 21, 22, 23, 24, 25, 26, 27, 28, 29, 30, 31, 32] (fun H locs ls hP hD hS hF hz => grunI C (cn_R l D cI cL cZ H.size q2) (cwI 0 C.2.2.2.2.1 (gWL we_1) rfl rfl rfl (C.2.2.2.2.1 _ we_5) (C.2.2.2.2.1 _ we_6) (C.2.2.2.2.1 _ we_7) rfl (by decide +kernel) ⟨Nat.le_of_ble_eq_true rfl, Nat.le_of_ble_eq_true rfl⟩) kEnv_T rfl rfl (Nat.le_of_ble_eq_true rfl) dL_law_12 ⟨Nat.le_of_ble_eq_true rfl, Nat.le_of_ble_eq_true rfl⟩ hP hD hz) rfl (by decide) rfl (by decide) (by decide) (fun v => ?_)
    refine g_astore_n C (lv' := [(2, .ref q2), (1, .ref q1), (0, .ref b)]) dL_law_15 rfl (by decide) rfl ?_
    refine g_iconst C (v := (0 : Int32)) dL_law_16 (by decide) ?_
    refine g_istore_n C (lv' := [(3, .int (0 : Int32)), (2, .ref q2), (1, .ref q1), (0, .ref b)]) dL_law_17 rfl (by decide) rfl ?_
    refine law_loop (xs := xs) (L := L) C hE hXc hL ?_ (L + 1) 0 (by omega) (by omega) 0 4 0 4 0 1 st3 (fun _ => 0) (fun _ => 0) (fun _ => 0) 4 0 4 0 1 st3 (fun _ => 0) (fun _ => 0) (fun _ => 0) 4 0 4 0 1 st3 (fun _ => 0) (fun _ => 0) (fun _ => 0) (fillto 8 (-1)) (fun _ => 0) (fun _ => 0) 0 0 0 0 (fun _ => 0) 0 (fun _ => 0) (fun _ => 0) (fun _ => 0) (fun _ => 0) (fun _ => 0) (fun _ => 0) (fun _ => 0) (fun _ => 0) (fun _ => 0) (fun _ => 0) 4 0 4 0 1 0 0 0 0 0 0 (fillto 36 3) (fun _ => 0) (fun _ => 0) (fun _ => 0) (fun _ => 0) (fillto 8 (-1)) (fun _ => 0) (fun _ => 0) (fun _ => 0) (fun _ => 0) (fun _ => 0) (fun _ => 0) (fun _ => 0) (fun _ => 0) (fun _ => 0) Rel_0
    intro c_isKept c_now_width c_now_rain c_now_ear c_now_walkers c_now_seed c_now_stones c_now_kinds c_now_weights c_now_chances c_kept_width c_kept_rain c_kept_ear c_kept_walkers c_kept_seed c_kept_stones c_kept_kinds c_kept_weights c_kept_chances c_trial_width c_trial_rain c_trial_ear c_trial_walkers c_trial_seed c_trial_stones c_trial_kinds c_trial_weights c_trial_chances c_shelves_marks c_shelves_sizes c_shelves_elements c_tape_size c_tape_token c_tape_place c_tape_end c_tape_letters c_paths_width c_paths_steps c_paths_rest c_paths_counts c_paths_way c_paths_open c_paths_turnable c_paths_turned c_sounds c_volumes c_refusals r_n r_rain r_ear r_many r_seed r_taped r_from r_to r_token r_value r_imaged r_gravel r_kind r_own r_likely r_tape r_holding r_rowLength r_rowOf r_refusals r_old r_ahead r_cost r_may r_rest r_way lv H locs ls hP hD hS hl
    refine lv_iconst (v := 1) hx hb dL_law_1896 (by decide) ?_
    refine va_forget (fun q hq => hS.2.2 q hq) ?_
    exact lw_ret hx hb hr hlocks dL_law_1897
  have hl := lv_entry ([.ref b]) (n := 4) (Nat.le_of_ble_eq_true rfl)
  rw [lg_entry_eq]
  exact key s.heap [] _ (fun k q h => by simp at h) ⟨fun i j p q h => by simp at h, fun k q h => by simp at h⟩ va_S.rf hl
-- ===== YOUR PART ENDS =====
set_option maxHeartbeats 4000000 in
theorem lw_walk (l : Launch) (hflags : l.flags = flags0) (b : Addr) (xs : List Int32) : MetFree l x (headSpec (Jvm.Cond.code x code maxLocals ret :: tables_1) room_1) (lw_P b xs) (fun _ _ _ _ _ => True) lw_Q := by
  refine MetFree.of_bodyS (code := code) (maxLocals := maxLocals) (ret := ret) (by decide) ?_ ?_
  · intro args s m h hn
    obtain ⟨meth, c, h1, h2, h3, h4, h5, h6, -, -⟩ := Cond.code_spec hn (atoms_spec (ws := Jvm.Cond.code x code maxLocals ret :: tables_1) h _ List.mem_cons_self)
    exact ⟨meth, c, h1, h2, h3, h4, h5, h6⟩
  · intro p e s m args below meth c s₁ B hml0 hP _
    obtain ⟨rfl, hx, hbd, hgv⟩ := hP
    obtain ⟨scr, harrAt, hlist, hof, hsmall⟩ := hx
    obtain ⟨hcb, hkn, -, -⟩ := State.arrayAt?_spec harrAt
    have hown : s.vm.findClass R_law = some m.cls := findClass_of_methodNamed B.named
    have hts0 : ∀ c ∈ (Jvm.Cond.code x code maxLocals ret :: tables_1), c.before #[Value.ref b] s = true := atoms_spec (ws := Jvm.Cond.code x code maxLocals ret :: tables_1) B.pre
    have hts : ∀ w ∈ lw_tbl, w.before #[Value.ref b] s = true := k2_hts_sels lw_privs (fun w hw => hts0 w (List.mem_cons_of_mem _ hw)) lw_privs_ok
    have hml : c.maxLocals = 4 := B.maxLocals_eq (hts0 _ List.mem_cons_self)
    have X₀ : Stand p l e room_1 s m #[Value.ref b] below meth c s₁ [] 0 0 := Stand.of_body B
    have hh0 : s₁.heap = s.heap := by rw [B.state]; rfl
    have hsz : scr.slots.size = xs.length := by rw [← Array.length_toList, hlist, List.length_map]
    have hval : ∀ j : Nat, j < xs.length → scr.slots[j]? = some (.int (xs.getD j 0)) := fun j hj => by
      rw [← Array.getElem?_toList, hlist]
      simp [hj]
    have hbl : b < s.heap.size := (Array.getElem?_eq_some_iff.mp hcb).1
    have hX : va_X b xs.length (fun j => xs.getD j 0) s s.heap := ⟨scr, hcb, hof, hkn, hsz, hval⟩
    have K : W p l e room_1 s m #[Value.ref b] below meth c s₁.heap [] 0 0 (lw_Z below #[Value.ref b] s) (entryFrame m ([Value.ref b] : List Value).toArray 4) := by
      rw [hh0]
      exact whole_start l hflags hbd ⟨B.exec, B.bytes, B.returns, hml, hown, hts, hX, hbl, B.notSynchronized, hgv⟩
    obtain ⟨t, a1, o, b1, b2, b3⟩ := K s₁ rfl X₀
    exact ⟨t, o, a1, b1, b2, b3⟩
theorem lw_pre_spec {args : Array Value} {s : State} (h : (Jvm.Cond.and given_1 narrow_1).before args s = true) (hr : rest_1_c.before args s = true) : ∃ (b : Addr) (xs : List Int32), lw_P b xs args s := by
  have hs := flat_of_before _ h
  have hq := flat_of_before _ hr
  have hc : (Cond.count 1).before args s = true := hs _ (by decide +kernel)
  have harr : (Cond.arrayOf (.arg 0) .int).before args s = true := hs _ (by decide +kernel)
  have hle : (Cond.le (.length (.arg 0)) (.int 3072)).before args s = true := hs _ (by decide +kernel)
  have hlen : (Cond.isInt (.length (.arg 0))).before args s = true := hq _ (by decide +kernel)
  have hall : (Cond.all (.arg 0) (.isInt (.elem (.arg 0) (.index 0)))).before args s = true := hq _ (by decide +kernel)
  obtain ⟨b, xs, hb, hx⟩ := State.ints_of_pre rfl harr hlen hall
  have hsm : xs.length < 2 ^ 31 := hx.choose_spec.2.2.2
  have hev : (Term.length (.arg 0)).eval args s none [] s = some (.int xs.length.toInt32) := hx.length_eval hb
  have hv := Cond.le_ints hev (show (Term.int 3072).eval args s none [] s = some (.int 3072) from rfl)
  have hd : xs.length.toInt32 ≤ 3072 := by
    simpa [Cond.before, Cond.holds, hv] using hle
  have hN : xs.length ≤ 3072 := (Int32.ofNat_le_ofNat hsm (by decide)).mp (show Int32.ofNat xs.length ≤ Int32.ofNat 3072 from hd)
  exact ⟨b, xs, Cond.one_arg hc (show args[0]? = some (.ref b) from hb), hx, hN, h⟩
theorem lw_comes (l : Launch) (hflags : l.flags = flags0) : Comes l x (Jvm.Cond.code x code maxLocals ret :: tables_1) room_1 (fun tb e args s => Calls_1 tb e args s ∧ rest_1 tb e args s ∧ Pre_1 tb e args s)
    (fun _ _ args s o t => lw_Q args s o t) := by
  intro p e ha hc hk s m args below hf hfit hheap happ hpre
  obtain ⟨b, xs, hP⟩ := lw_pre_spec hpre.2.2 hpre.2.1
  obtain ⟨k, o, h1, h2, h3, hQ⟩ := lw_walk l hflags b xs p e ha hc hk s m args below hf ((Spec.applies_iff_loose hf).mp happ).1 hP trivial
  exact ⟨k, o, h1, h2, h3, hQ⟩
theorem lw_frame {s t : State} {o : Outcome} {args : Array Value} (h : Framed s o t [] 49 1921) :
    Framed s o t (fieldLocs frame_1_writes args s ++ arrayLocs frame_1_arrays args s ++ staticLocs frame_1_statics s) 49 1921 := h
theorem lw_limb (L : Cond) (hL : ∀ (args : Array Value) (s t : State), L.after args s (.returned (some (.int 1))) t = true) :
    ArmFor flags0 classFile x code maxLocals ret World_1 tables_1 room_1 Calls_1 rest_1 Pre_1
      (fun tb e a s o t => postC L tb e a s o t ∧ Framed s o t (fieldLocs frame_1_writes a s ++ arrayLocs frame_1_arrays a s ++ staticLocs frame_1_statics s) 49 1921) := by
  intro l hflags _ _ p e ha hc hk s m args below hf hfit hheap happ hpre
  obtain ⟨k, o, h1, h2, h3, rfl, hF⟩ := lw_comes l hflags p e ha hc hk s m args below hf hfit hheap happ hpre
  exact ⟨k, _, h1, h2, h3, hL args s _, lw_frame hF⟩
theorem i_vc : Claimed_1_1 ∧ Claimed_1_2 := ⟨lw_limb limb_1_1 (fun args s t => by simp [limb_1_1, Cond.after, Cond.holds, Cond.value]), lw_limb limb_1_2 (fun args s t => Cond.after_iff.mpr (by
  first | (rw [show limb_1_2 = Cond.eq .result (.int 1) from rfl, Cond.eq_ints (x := 1) (y := 1) rfl rfl]; simp; done) | (simp [limb_1_2, Cond.value, Term.eval]; done)))⟩

set_option maxRecDepth 100000 in
set_option maxHeartbeats 4000000 in
theorem s_M_init_0 {p : Program} {l : Launch} {e : Env} {s : State} {m : MethodId} {args : Array Value} {below : List Frame} {meth : Method} {c : Code} {D : va_G} {A : Nat → Prop} {ad0 : Nat → Nat} {n0 : Nat} (hC : XC p s m args c c_M_init 1 y_M_init.cls XTs XCL XNW XAL D A) (hr : meth.sig.returnType = none) (hlk : meth.locks = false) (hnm : meth.name = y_M_init.name)   (r0 : Nat) (n : Nat) (h : XH) (n' : Nat) (h' : XH) (hE : D_M_init_0  r0 n h = some (n', h')) : XW p l e ({ frames := 1, cells := 14, slots := 4235, locals := 20 } : Room) s m args below meth c 1 XCL D A ad0 n0 0 0 (MQ below (xQc D XCL n0 ad0 A none n' h') args s 14 4235 A) n h 0 [(0, .ref r0)] [] := by
  unfold D_M_init_0 at hE
  refine xi_aload_n hC d_M_init_0 rfl 0 rfl ?_
  refine xi_objInit hC xt_199 xt_1 xt_2 d_M_init_1 (by decide) (by decide) (Nat.le_of_ble_eq_true rfl) ?_
  refine xi_aload_n hC d_M_init_4 rfl 0 rfl ?_
  refine xi_bipush (v := (25 : Int32)) hC d_M_init_5 (by decide) ?_
  obtain ⟨h1, hE2, hE⟩ := xb1_inv hE
  cases hE2
  refine xi_newI (atype := .int) (N := 25) hC rfl xt_3 (by decide) (by decide) (by decide) (by decide) (by decide) d_M_init_7 ?_
  obtain ⟨h3, hE4, hE⟩ := xb1_inv hE
  refine xi_putF (C := R_M) (T := T_M) (N := 19) (ci := 4) (k := 2) hC ty_M rfl iws_M tok_M nok_M (by decide) xt_200 (by decide) rfl hnm rfl (fun _ => rfl) (fun _ => rfl) hE4 d_M_init_9 ?_
  refine xi_aload_n hC d_M_init_12 rfl 0 rfl ?_
  refine xi_bipush (v := (25 : Int32)) hC d_M_init_13 (by decide) ?_
  obtain ⟨h5, hE6, hE⟩ := xb1_inv hE
  cases hE6
  refine xi_newI (atype := .int) (N := 25) hC rfl xt_3 (by decide) (by decide) (by decide) (by decide) (by decide) d_M_init_15 ?_
  obtain ⟨h7, hE8, hE⟩ := xb1_inv hE
  refine xi_putF (C := R_M) (T := T_M) (N := 19) (ci := 4) (k := 3) hC ty_M rfl iws_M tok_M nok_M (by decide) xt_201 (by decide) rfl hnm rfl (fun _ => rfl) (fun _ => rfl) hE8 d_M_init_17 ?_
  refine xi_aload_n hC d_M_init_20 rfl 0 rfl ?_
  refine xi_bipush (v := (25 : Int32)) hC d_M_init_21 (by decide) ?_
  obtain ⟨h9, hE10, hE⟩ := xb1_inv hE
  cases hE10
  refine xi_newI (atype := .int) (N := 25) hC rfl xt_3 (by decide) (by decide) (by decide) (by decide) (by decide) d_M_init_23 ?_
  obtain ⟨h11, hE12, hE⟩ := xb1_inv hE
  refine xi_putF (C := R_M) (T := T_M) (N := 19) (ci := 4) (k := 4) hC ty_M rfl iws_M tok_M nok_M (by decide) xt_202 (by decide) rfl hnm rfl (fun _ => rfl) (fun _ => rfl) hE12 d_M_init_25 ?_
  refine xi_aload_n hC d_M_init_28 rfl 0 rfl ?_
  refine xi_bipush (v := (25 : Int32)) hC d_M_init_29 (by decide) ?_
  obtain ⟨h13, hE14, hE⟩ := xb1_inv hE
  cases hE14
  refine xi_newI (atype := .int) (N := 25) hC rfl xt_3 (by decide) (by decide) (by decide) (by decide) (by decide) d_M_init_31 ?_
  obtain ⟨h15, hE16, hE⟩ := xb1_inv hE
  refine xi_putF (C := R_M) (T := T_M) (N := 19) (ci := 4) (k := 5) hC ty_M rfl iws_M tok_M nok_M (by decide) xt_203 (by decide) rfl hnm rfl (fun _ => rfl) (fun _ => rfl) hE16 d_M_init_33 ?_
  refine xi_aload_n hC d_M_init_36 rfl 0 rfl ?_
  refine xi_bipush (v := (21 : Int32)) hC d_M_init_37 (by decide) ?_
  obtain ⟨h17, hE18, hE⟩ := xb1_inv hE
  cases hE18
  refine xi_newI (atype := .int) (N := 21) hC rfl xt_3 (by decide) (by decide) (by decide) (by decide) (by decide) d_M_init_39 ?_
  obtain ⟨h19, hE20, hE⟩ := xb1_inv hE
  refine xi_putF (C := R_M) (T := T_M) (N := 19) (ci := 4) (k := 6) hC ty_M rfl iws_M tok_M nok_M (by decide) xt_204 (by decide) rfl hnm rfl (fun _ => rfl) (fun _ => rfl) hE20 d_M_init_41 ?_
  refine xi_aload_n hC d_M_init_44 rfl 0 rfl ?_
  refine xi_bipush (v := (21 : Int32)) hC d_M_init_45 (by decide) ?_
  obtain ⟨h21, hE22, hE⟩ := xb1_inv hE
  cases hE22
  refine xi_newI (atype := .int) (N := 21) hC rfl xt_3 (by decide) (by decide) (by decide) (by decide) (by decide) d_M_init_47 ?_
  obtain ⟨h23, hE24, hE⟩ := xb1_inv hE
  refine xi_putF (C := R_M) (T := T_M) (N := 19) (ci := 4) (k := 7) hC ty_M rfl iws_M tok_M nok_M (by decide) xt_205 (by decide) rfl hnm rfl (fun _ => rfl) (fun _ => rfl) hE24 d_M_init_49 ?_
  refine xi_aload_n hC d_M_init_52 rfl 0 rfl ?_
  refine xi_bipush (v := (25 : Int32)) hC d_M_init_53 (by decide) ?_
  obtain ⟨h25, hE26, hE⟩ := xb1_inv hE
  cases hE26
  refine xi_newI (atype := .int) (N := 25) hC rfl xt_3 (by decide) (by decide) (by decide) (by decide) (by decide) d_M_init_55 ?_
  obtain ⟨h27, hE28, hE⟩ := xb1_inv hE
  refine xi_putF (C := R_M) (T := T_M) (N := 19) (ci := 4) (k := 9) hC ty_M rfl iws_M tok_M nok_M (by decide) xt_206 (by decide) rfl hnm rfl (fun _ => rfl) (fun _ => rfl) hE28 d_M_init_57 ?_
  refine xi_aload_n hC d_M_init_60 rfl 0 rfl ?_
  refine xi_bipush (v := (25 : Int32)) hC d_M_init_61 (by decide) ?_
  obtain ⟨h29, hE30, hE⟩ := xb1_inv hE
  cases hE30
  refine xi_newI (atype := .int) (N := 25) hC rfl xt_3 (by decide) (by decide) (by decide) (by decide) (by decide) d_M_init_63 ?_
  obtain ⟨h31, hE32, hE⟩ := xb1_inv hE
  refine xi_putF (C := R_M) (T := T_M) (N := 19) (ci := 4) (k := 10) hC ty_M rfl iws_M tok_M nok_M (by decide) xt_207 (by decide) rfl hnm rfl (fun _ => rfl) (fun _ => rfl) hE32 d_M_init_65 ?_
  refine xi_aload_n hC d_M_init_68 rfl 0 rfl ?_
  refine xi_bipush (v := (41 : Int32)) hC d_M_init_69 (by decide) ?_
  obtain ⟨h33, hE34, hE⟩ := xb1_inv hE
  cases hE34
  refine xi_newI (atype := .int) (N := 41) hC rfl xt_3 (by decide) (by decide) (by decide) (by decide) (by decide) d_M_init_71 ?_
  obtain ⟨h35, hE36, hE⟩ := xb1_inv hE
  refine xi_putF (C := R_M) (T := T_M) (N := 19) (ci := 4) (k := 13) hC ty_M rfl iws_M tok_M nok_M (by decide) xt_208 (by decide) rfl hnm rfl (fun _ => rfl) (fun _ => rfl) hE36 d_M_init_73 ?_
  refine xi_aload_n hC d_M_init_76 rfl 0 rfl ?_
  refine xi_sipush (v := (984 : Int32)) hC d_M_init_77 (by decide) ?_
  obtain ⟨h37, hE38, hE⟩ := xb1_inv hE
  cases hE38
  refine xi_newI (atype := .int) (N := 984) hC rfl xt_3 (by decide) (by decide) (by decide) (by decide) (by decide) d_M_init_80 ?_
  obtain ⟨h39, hE40, hE⟩ := xb1_inv hE
  refine xi_putF (C := R_M) (T := T_M) (N := 19) (ci := 4) (k := 14) hC ty_M rfl iws_M tok_M nok_M (by decide) xt_209 (by decide) rfl hnm rfl (fun _ => rfl) (fun _ => rfl) hE40 d_M_init_82 ?_
  refine xi_aload_n hC d_M_init_85 rfl 0 rfl ?_
  refine xi_sipush (v := (984 : Int32)) hC d_M_init_86 (by decide) ?_
  obtain ⟨h41, hE42, hE⟩ := xb1_inv hE
  cases hE42
  refine xi_newI (atype := .int) (N := 984) hC rfl xt_3 (by decide) (by decide) (by decide) (by decide) (by decide) d_M_init_89 ?_
  obtain ⟨h43, hE44, hE⟩ := xb1_inv hE
  refine xi_putF (C := R_M) (T := T_M) (N := 19) (ci := 4) (k := 15) hC ty_M rfl iws_M tok_M nok_M (by decide) xt_210 (by decide) rfl hnm rfl (fun _ => rfl) (fun _ => rfl) hE44 d_M_init_91 ?_
  refine xi_aload_n hC d_M_init_94 rfl 0 rfl ?_
  refine xi_sipush (v := (1025 : Int32)) hC d_M_init_95 (by decide) ?_
  obtain ⟨h45, hE46, hE⟩ := xb1_inv hE
  cases hE46
  refine xi_newI (atype := .int) (N := 1025) hC rfl xt_3 (by decide) (by decide) (by decide) (by decide) (by decide) d_M_init_98 ?_
  obtain ⟨h47, hE48, hE⟩ := xb1_inv hE
  refine xi_putF (C := R_M) (T := T_M) (N := 19) (ci := 4) (k := 16) hC ty_M rfl iws_M tok_M nok_M (by decide) xt_211 (by decide) rfl hnm rfl (fun _ => rfl) (fun _ => rfl) hE48 d_M_init_100 ?_
  refine xi_aload_n hC d_M_init_103 rfl 0 rfl ?_
  refine xi_sipush (v := (984 : Int32)) hC d_M_init_104 (by decide) ?_
  obtain ⟨h49, hE50, hE⟩ := xb1_inv hE
  cases hE50
  refine xi_newI (atype := .int) (N := 984) hC rfl xt_3 (by decide) (by decide) (by decide) (by decide) (by decide) d_M_init_107 ?_
  obtain ⟨h51, hE52, hE⟩ := xb1_inv hE
  refine xi_putF (C := R_M) (T := T_M) (N := 19) (ci := 4) (k := 17) hC ty_M rfl iws_M tok_M nok_M (by decide) xt_212 (by decide) rfl hnm rfl (fun _ => rfl) (fun _ => rfl) hE52 d_M_init_109 ?_
  refine xi_aload_n hC d_M_init_112 rfl 0 rfl ?_
  refine xi_bipush (v := (25 : Int32)) hC d_M_init_113 (by decide) ?_
  obtain ⟨h53, hE54, hE⟩ := xb1_inv hE
  cases hE54
  refine xi_newI (atype := .int) (N := 25) hC rfl xt_3 (by decide) (by decide) (by decide) (by decide) (by decide) d_M_init_115 ?_
  obtain ⟨h55, hE56, hE⟩ := xb1_inv hE
  refine xi_putF (C := R_M) (T := T_M) (N := 19) (ci := 4) (k := 18) hC ty_M rfl iws_M tok_M nok_M (by decide) xt_213 (by decide) rfl hnm rfl (fun _ => rfl) (fun _ => rfl) hE56 d_M_init_117 ?_
  cases hE
  exact xi_vret hC hr hlk d_M_init_120
set_option maxRecDepth 100000 in
theorem x_M_init {l : Launch} {D : va_G} {r0 : Nat} {n : Nat} {h : XH} {n' : Nat} {h' : XH} (hE : X_M_init r0 n h = some (n', h')) : XMet l y_M_init c_M_init 1 none XTs XCL XNW XAL D ({ frames := 1, cells := 14, slots := 4235, locals := 20 } : Room) 14 4235 [.ref r0] n h none n' h' := by
  refine XMet.mk (by decide) xNW_good xTs_good (Nat.le_of_ble_eq_true rfl) ?_
  intro p e s m args below meth c A ad0 hC hr hlk hnm
  refine xi_locs (lv' := [(0, .ref r0)]) [0] rfl ?_
  exact s_M_init_0 hC hr hlk hnm _ n h _ _ hE

set_option maxRecDepth 100000 in
set_option maxHeartbeats 4000000 in
theorem s_M_isIn_18 {p : Program} {l : Launch} {e : Env} {s : State} {m : MethodId} {args : Array Value} {below : List Frame} {meth : Method} {c : Code} {D : va_G} {A : Nat → Prop} {ad0 : Nat → Nat} {n0 : Nat} (hC : XC p s m args c c_M_isIn 6 y_M_isIn.cls XTs XCL XNW XAL D A) (hr : meth.sig.returnType = some .boolean) (hlk : meth.locks = false) (hnm : meth.name = y_M_isIn.name)   (s0 : Int32) (n : Nat) (h : XH) (rr : Int32)  (hE : D_M_isIn_18  s0 h = some rr) : XW p l e ({ frames := 0, cells := 0, slots := 0, locals := 0 } : Room) s m args below meth c 6 XCL D A ad0 n0 0 0 (MQ below (xQc D XCL n0 ad0 A (some (.int rr)) n h) args s 0 0 A) n h 18 [] [.int s0] := by
  unfold D_M_isIn_18 at hE
  obtain ⟨hb1, hE⟩ := xchk_inv hE
  cases hE
  exact xi_zret hC hr (xzb_nar hb1) hlk d_M_isIn_18
set_option maxRecDepth 100000 in
set_option maxHeartbeats 4000000 in
theorem s_M_isIn_17 {p : Program} {l : Launch} {e : Env} {s : State} {m : MethodId} {args : Array Value} {below : List Frame} {meth : Method} {c : Code} {D : va_G} {A : Nat → Prop} {ad0 : Nat → Nat} {n0 : Nat} (hC : XC p s m args c c_M_isIn 6 y_M_isIn.cls XTs XCL XNW XAL D A) (hr : meth.sig.returnType = some .boolean) (hlk : meth.locks = false) (hnm : meth.name = y_M_isIn.name)    (n : Nat) (h : XH) (rr : Int32)  (hE : D_M_isIn_17   h = some rr) : XW p l e ({ frames := 0, cells := 0, slots := 0, locals := 0 } : Room) s m args below meth c 6 XCL D A ad0 n0 0 0 (MQ below (xQc D XCL n0 ad0 A (some (.int rr)) n h) args s 0 0 A) n h 17 [] [] := by
  unfold D_M_isIn_17 at hE
  refine xi_iconst (v := (0 : Int32)) hC d_M_isIn_17 (by decide) ?_
  refine xi_locs (lv' := []) [] rfl ?_
  exact s_M_isIn_18 hC hr hlk hnm _ _ _ _ hE
set_option maxRecDepth 100000 in
set_option maxHeartbeats 4000000 in
theorem s_M_isIn_0 {p : Program} {l : Launch} {e : Env} {s : State} {m : MethodId} {args : Array Value} {below : List Frame} {meth : Method} {c : Code} {D : va_G} {A : Nat → Prop} {ad0 : Nat → Nat} {n0 : Nat} (hC : XC p s m args c c_M_isIn 6 y_M_isIn.cls XTs XCL XNW XAL D A) (hr : meth.sig.returnType = some .boolean) (hlk : meth.locks = false) (hnm : meth.name = y_M_isIn.name)   (x0 : Int64) (x2 : Int64) (x4 : Int64) (n : Nat) (h : XH) (rr : Int32)  (hE : D_M_isIn_0  x0 x2 x4 h = some rr) : XW p l e ({ frames := 0, cells := 0, slots := 0, locals := 0 } : Room) s m args below meth c 6 XCL D A ad0 n0 0 0 (MQ below (xQc D XCL n0 ad0 A (some (.int rr)) n h) args s 0 0 A) n h 0 [(0, .long x0), (2, .long x2), (4, .long x4)] [] := by
  unfold D_M_isIn_0 at hE
  refine xi_lload_n hC d_M_isIn_0 rfl 0 rfl ?_
  refine xi_lload_n hC d_M_isIn_1 rfl 1 rfl ?_
  refine xi_lcmp hC d_M_isIn_2 ?_
  refine xi_if_lt (tgt := 17) hC d_M_isIn_3 (by decide) (fun hz1 => ?_) (fun hz1 => ?_)
  · rw [if_pos hz1] at hE
    refine xi_locs (lv' := []) [] rfl ?_
    exact s_M_isIn_17 hC hr hlk hnm _ _ _ hE
  · rw [if_neg hz1] at hE
    refine xi_lload_n hC d_M_isIn_6 rfl 0 rfl ?_
    refine xi_lload hC d_M_isIn_7 2 rfl ?_
    refine xi_lcmp hC d_M_isIn_9 ?_
    refine xi_if_gt (tgt := 17) hC d_M_isIn_10 (by decide) (fun hz2 => ?_) (fun hz2 => ?_)
    · rw [if_pos hz2] at hE
      refine xi_locs (lv' := []) [] rfl ?_
      exact s_M_isIn_17 hC hr hlk hnm _ _ _ hE
    · rw [if_neg hz2] at hE
      refine xi_iconst (v := (1 : Int32)) hC d_M_isIn_13 (by decide) ?_
      refine xi_goto (tgt := 18) hC d_M_isIn_14 (by decide) ?_
      refine xi_locs (lv' := []) [] rfl ?_
      exact s_M_isIn_18 hC hr hlk hnm _ _ _ _ hE
set_option maxRecDepth 100000 in
theorem x_M_isIn {l : Launch} {D : va_G} {x0 : Int64} {x2 : Int64} {x4 : Int64} {n : Nat} {h : XH} {rr : Int32}  (hE : X_M_isIn x0 x2 x4 h = some rr) : XMet l y_M_isIn c_M_isIn 6 (some .boolean) XTs XCL XNW XAL D ({ frames := 0, cells := 0, slots := 0, locals := 0 } : Room) 0 0 [.long x0, .long x2, .long x4] n h (some (.int rr)) n h := by
  refine XMet.mk (by decide) xNW_good xTs_good (Nat.le_of_ble_eq_true rfl) ?_
  intro p e s m args below meth c A ad0 hC hr hlk hnm
  refine xi_locs (lv' := [(0, .long x0), (2, .long x2), (4, .long x4)]) [0, 1, 2] rfl ?_
  exact s_M_isIn_0 hC hr hlk hnm _ _ _ n h _ hE

set_option maxRecDepth 100000 in
set_option maxHeartbeats 4000000 in
theorem s_M_isRunnable_0 {p : Program} {l : Launch} {e : Env} {s : State} {m : MethodId} {args : Array Value} {below : List Frame} {meth : Method} {c : Code} {D : va_G} {A : Nat → Prop} {ad0 : Nat → Nat} {n0 : Nat} (hC : XC p s m args c c_M_isRunnable 2 y_M_isRunnable.cls XTs XCL XNW XAL D A) (hr : meth.sig.returnType = some .boolean) (hlk : meth.locks = false) (hnm : meth.name = y_M_isRunnable.name)   (r0 : Nat) (x1 : Int32) (n : Nat) (h : XH) (rr : Int32)  (hE : D_M_isRunnable_0  r0 x1 h = some rr) : XW p l e ({ frames := 1, cells := 0, slots := 0, locals := 25 } : Room) s m args below meth c 2 XCL D A ad0 n0 0 0 (MQ below (xQc D XCL n0 ad0 A (some (.int rr)) n h) args s 0 0 A) n h 0 [(0, .ref r0), (1, .int x1)] [] := by
  unfold D_M_isRunnable_0 at hE
  refine xi_iload_n hC d_M_isRunnable_0 rfl 1 rfl ?_
  refine xi_i2l hC d_M_isRunnable_1 ?_
  refine xi_lconst (v := (1 : Int64)) hC d_M_isRunnable_2 (by decide) ?_
  refine xi_aload_n hC d_M_isRunnable_3 rfl 0 rfl ?_
  obtain ⟨v2, hE1, hE⟩ := xb1_inv hE
  refine xi_get (C := R_M) (T := T_M) (N := 19) (ci := 4) (k := 1) hC rfl iws_M (by decide) xt_214 (by decide) (xgI_inv hE1) d_M_isRunnable_4 ?_
  refine xi_i2l hC d_M_isRunnable_7 ?_
  obtain ⟨v3, hE4, hE⟩ := xb1_inv hE
  refine xi_callS (as := [.long (x1.toInt64), .long (1 : Int64), .long (v2.toInt64)]) (st := []) hC (x_M_isIn hE4) xt_216 xt_217 xt_218 xt_215 ⟨by decide, by decide, (by decide +kernel : (parseMethodDescriptor y_M_isIn.desc).map (fun d => d.parameters.length) = some 3)⟩ rfl rfl ⟨by decide, by decide⟩ ⟨by decide, by decide⟩ (Nat.le_of_ble_eq_true rfl) rfl d_M_isRunnable_8 ?_
  refine xi_stk (st' := [.int v3]) rfl ?_
  obtain ⟨hb5, hE⟩ := xchk_inv hE
  cases hE
  exact xi_zret hC hr (xzb_nar hb5) hlk d_M_isRunnable_11
set_option maxRecDepth 100000 in
theorem x_M_isRunnable {l : Launch} {D : va_G} {r0 : Nat} {x1 : Int32} {n : Nat} {h : XH} {rr : Int32}  (hE : X_M_isRunnable r0 x1 h = some rr) : XMet l y_M_isRunnable c_M_isRunnable 2 (some .boolean) XTs XCL XNW XAL D ({ frames := 1, cells := 0, slots := 0, locals := 25 } : Room) 0 0 [.ref r0, .int x1] n h (some (.int rr)) n h := by
  refine XMet.mk (by decide) xNW_good xTs_good (Nat.le_of_ble_eq_true rfl) ?_
  intro p e s m args below meth c A ad0 hC hr hlk hnm
  refine xi_locs (lv' := [(0, .ref r0), (1, .int x1)]) [0, 1] rfl ?_
  exact s_M_isRunnable_0 hC hr hlk hnm _ _ n h _ hE

set_option maxRecDepth 100000 in
set_option maxHeartbeats 4000000 in
theorem s_M_runnable_41 {p : Program} {l : Launch} {e : Env} {s : State} {m : MethodId} {args : Array Value} {below : List Frame} {meth : Method} {c : Code} {D : va_G} {A : Nat → Prop} {ad0 : Nat → Nat} {n0 : Nat} (hC : XC p s m args c c_M_runnable 4 y_M_runnable.cls XTs XCL XNW XAL D A) (hr : meth.sig.returnType = some .int) (hlk : meth.locks = false) (hnm : meth.name = y_M_runnable.name)    (n : Nat) (h : XH) (rr : Int32) (h' : XH) (hE : D_M_runnable_41   h = some (rr, h')) : XW p l e ({ frames := 1, cells := 0, slots := 0, locals := 25 } : Room) s m args below meth c 4 XCL D A ad0 n0 0 0 (MQ below (xQc D XCL n0 ad0 A (some (.int rr)) n h') args s 0 0 A) n h 41 [] [] := by
  unfold D_M_runnable_41 at hE
  refine xi_bipush (v := (-2 : Int32)) hC d_M_runnable_41 (by decide) ?_
  cases hE
  exact xi_iret hC hr hlk d_M_runnable_43
set_option maxRecDepth 100000 in
set_option maxHeartbeats 4000000 in
theorem s_M_runnable_0 {p : Program} {l : Launch} {e : Env} {s : State} {m : MethodId} {args : Array Value} {below : List Frame} {meth : Method} {c : Code} {D : va_G} {A : Nat → Prop} {ad0 : Nat → Nat} {n0 : Nat} (hC : XC p s m args c c_M_runnable 4 y_M_runnable.cls XTs XCL XNW XAL D A) (hr : meth.sig.returnType = some .int) (hlk : meth.locks = false) (hnm : meth.name = y_M_runnable.name)   (r0 : Nat) (x1 : Int32) (x2 : Int32) (x3 : Int32) (n : Nat) (h : XH) (rr : Int32) (h' : XH) (hE : D_M_runnable_0  r0 x1 x2 x3 h = some (rr, h')) : XW p l e ({ frames := 1, cells := 0, slots := 0, locals := 25 } : Room) s m args below meth c 4 XCL D A ad0 n0 0 0 (MQ below (xQc D XCL n0 ad0 A (some (.int rr)) n h') args s 0 0 A) n h 0 [(0, .ref r0), (1, .int x1), (2, .int x2), (3, .int x3)] [] := by
  unfold D_M_runnable_0 at hE
  refine xi_aload_n hC d_M_runnable_0 rfl 0 rfl ?_
  refine xi_iconst (v := (0 : Int32)) hC d_M_runnable_1 (by decide) ?_
  obtain ⟨h1, hE2, hE⟩ := xb1_inv hE
  refine xi_put (C := R_M) (T := T_M) (N := 19) (ci := 4) (k := 0) hC ty_M rfl iws_M tok_M nok_M (by decide) xt_219 (by decide) rfl (fun _ => rfl) (fun _ => rfl) hE2 d_M_runnable_2 ?_
  refine xi_iload_n hC d_M_runnable_5 rfl 1 rfl ?_
  refine xi_i2l hC d_M_runnable_6 ?_
  refine xi_lconst (v := (0 : Int64)) hC d_M_runnable_7 (by decide) ?_
  refine xi_ldc2 (v := (1000 : Int64)) hC d_M_runnable_8 xt_220 ?_
  obtain ⟨v3, hE4, hE⟩ := xb1_inv hE
  refine xi_callS (as := [.long (x1.toInt64), .long (0 : Int64), .long (1000 : Int64)]) (st := []) hC (x_M_isIn hE4) xt_216 xt_217 xt_218 xt_215 ⟨by decide, by decide, (by decide +kernel : (parseMethodDescriptor y_M_isIn.desc).map (fun d => d.parameters.length) = some 3)⟩ rfl rfl ⟨by decide, by decide⟩ ⟨by decide, by decide⟩ (Nat.le_of_ble_eq_true rfl) rfl d_M_runnable_11 ?_
  refine xi_stk (st' := [.int v3]) rfl ?_
  refine xi_if_eq (tgt := 41) hC d_M_runnable_14 (by decide) (fun hz5 => ?_) (fun hz5 => ?_)
  · rw [if_pos hz5] at hE
    refine xi_locs (lv' := []) [] rfl ?_
    exact s_M_runnable_41 hC hr hlk hnm _ _ _ _ hE
  · rw [if_neg hz5] at hE
    refine xi_iload_n hC d_M_runnable_17 rfl 2 rfl ?_
    refine xi_i2l hC d_M_runnable_18 ?_
    refine xi_lconst (v := (1 : Int64)) hC d_M_runnable_19 (by decide) ?_
    refine xi_ldc2 (v := (4 : Int64)) hC d_M_runnable_20 xt_221 ?_
    obtain ⟨v6, hE7, hE⟩ := xb1_inv hE
    refine xi_callS (as := [.long (x2.toInt64), .long (1 : Int64), .long (4 : Int64)]) (st := []) hC (x_M_isIn hE7) xt_216 xt_217 xt_218 xt_215 ⟨by decide, by decide, (by decide +kernel : (parseMethodDescriptor y_M_isIn.desc).map (fun d => d.parameters.length) = some 3)⟩ rfl rfl ⟨by decide, by decide⟩ ⟨by decide, by decide⟩ (Nat.le_of_ble_eq_true rfl) rfl d_M_runnable_23 ?_
    refine xi_stk (st' := [.int v6]) rfl ?_
    refine xi_if_eq (tgt := 41) hC d_M_runnable_26 (by decide) (fun hz8 => ?_) (fun hz8 => ?_)
    · rw [if_pos hz8] at hE
      refine xi_locs (lv' := []) [] rfl ?_
      exact s_M_runnable_41 hC hr hlk hnm _ _ _ _ hE
    · rw [if_neg hz8] at hE
      refine xi_iload_n hC d_M_runnable_29 rfl 3 rfl ?_
      refine xi_i2l hC d_M_runnable_30 ?_
      refine xi_lconst (v := (0 : Int64)) hC d_M_runnable_31 (by decide) ?_
      refine xi_ldc2 (v := (100000 : Int64)) hC d_M_runnable_32 xt_222 ?_
      obtain ⟨v9, hE10, hE⟩ := xb1_inv hE
      refine xi_callS (as := [.long (x3.toInt64), .long (0 : Int64), .long (100000 : Int64)]) (st := []) hC (x_M_isIn hE10) xt_216 xt_217 xt_218 xt_215 ⟨by decide, by decide, (by decide +kernel : (parseMethodDescriptor y_M_isIn.desc).map (fun d => d.parameters.length) = some 3)⟩ rfl rfl ⟨by decide, by decide⟩ ⟨by decide, by decide⟩ (Nat.le_of_ble_eq_true rfl) rfl d_M_runnable_35 ?_
      refine xi_stk (st' := [.int v9]) rfl ?_
      refine xi_if_ne (tgt := 44) hC d_M_runnable_38 (by decide) (fun hz11 => ?_) (fun hz11 => ?_)
      · rw [if_neg hz11] at hE
        refine xi_aload_n hC d_M_runnable_44 rfl 0 rfl ?_
        obtain ⟨v13, hE12, hE⟩ := xb1_inv hE
        refine xi_get (C := R_M) (T := T_M) (N := 19) (ci := 4) (k := 1) hC rfl iws_M (by decide) xt_214 (by decide) (xgI_inv hE12) d_M_runnable_45 ?_
        refine xi_bipush (v := (24 : Int32)) hC d_M_runnable_48 (by decide) ?_
        refine xi_icmp_ne (tgt := 56) hC d_M_runnable_50 (by decide) (fun hz14 => ?_) (fun hz14 => ?_)
        · rw [if_neg hz14] at hE
          refine xi_aload_n hC d_M_runnable_56 rfl 0 rfl ?_
          refine xi_dup hC d_M_runnable_57 rfl ?_
          obtain ⟨v16, hE15, hE⟩ := xb1_inv hE
          refine xi_get (C := R_M) (T := T_M) (N := 19) (ci := 4) (k := 1) hC rfl iws_M (by decide) xt_214 (by decide) (xgI_inv hE15) d_M_runnable_58 ?_
          refine xi_iconst (v := (1 : Int32)) hC d_M_runnable_61 (by decide) ?_
          refine xi_iadd hC d_M_runnable_62 ?_
          obtain ⟨h17, hE18, hE⟩ := xb1_inv hE
          refine xi_put (C := R_M) (T := T_M) (N := 19) (ci := 4) (k := 1) hC ty_M rfl iws_M tok_M nok_M (by decide) xt_214 (by decide) rfl (fun _ => rfl) (fun _ => rfl) hE18 d_M_runnable_63 ?_
          refine xi_aload_n hC d_M_runnable_66 rfl 0 rfl ?_
          obtain ⟨q20, hE19, hE⟩ := xb1_inv hE
          refine xi_get (C := R_M) (T := T_M) (N := 19) (ci := 4) (k := 2) hC rfl iws_M (by decide) xt_200 (by decide) (xgR_inv hE19) d_M_runnable_67 ?_
          refine xi_aload_n hC d_M_runnable_70 rfl 0 rfl ?_
          obtain ⟨v22, hE21, hE⟩ := xb1_inv hE
          refine xi_get (C := R_M) (T := T_M) (N := 19) (ci := 4) (k := 1) hC rfl iws_M (by decide) xt_214 (by decide) (xgI_inv hE21) d_M_runnable_71 ?_
          refine xi_iload_n hC d_M_runnable_74 rfl 1 rfl ?_
          obtain ⟨h23, hE24, hE⟩ := xb1_inv hE
          refine xi_iast hC hE24 d_M_runnable_75 ?_
          refine xi_aload_n hC d_M_runnable_76 rfl 0 rfl ?_
          obtain ⟨q26, hE25, hE⟩ := xb1_inv hE
          refine xi_get (C := R_M) (T := T_M) (N := 19) (ci := 4) (k := 3) hC rfl iws_M (by decide) xt_201 (by decide) (xgR_inv hE25) d_M_runnable_77 ?_
          refine xi_aload_n hC d_M_runnable_80 rfl 0 rfl ?_
          obtain ⟨v28, hE27, hE⟩ := xb1_inv hE
          refine xi_get (C := R_M) (T := T_M) (N := 19) (ci := 4) (k := 1) hC rfl iws_M (by decide) xt_214 (by decide) (xgI_inv hE27) d_M_runnable_81 ?_
          refine xi_iload_n hC d_M_runnable_84 rfl 2 rfl ?_
          obtain ⟨h29, hE30, hE⟩ := xb1_inv hE
          refine xi_iast hC hE30 d_M_runnable_85 ?_
          refine xi_aload_n hC d_M_runnable_86 rfl 0 rfl ?_
          obtain ⟨q32, hE31, hE⟩ := xb1_inv hE
          refine xi_get (C := R_M) (T := T_M) (N := 19) (ci := 4) (k := 4) hC rfl iws_M (by decide) xt_202 (by decide) (xgR_inv hE31) d_M_runnable_87 ?_
          refine xi_aload_n hC d_M_runnable_90 rfl 0 rfl ?_
          obtain ⟨v34, hE33, hE⟩ := xb1_inv hE
          refine xi_get (C := R_M) (T := T_M) (N := 19) (ci := 4) (k := 1) hC rfl iws_M (by decide) xt_214 (by decide) (xgI_inv hE33) d_M_runnable_91 ?_
          refine xi_iload_n hC d_M_runnable_94 rfl 3 rfl ?_
          obtain ⟨h35, hE36, hE⟩ := xb1_inv hE
          refine xi_iast hC hE36 d_M_runnable_95 ?_
          refine xi_aload_n hC d_M_runnable_96 rfl 0 rfl ?_
          refine xi_iconst (v := (0 : Int32)) hC d_M_runnable_97 (by decide) ?_
          obtain ⟨h37, hE38, hE⟩ := xb1_inv hE
          refine xi_put (C := R_M) (T := T_M) (N := 19) (ci := 4) (k := 11) hC ty_M rfl iws_M tok_M nok_M (by decide) xt_223 (by decide) rfl (fun _ => rfl) (fun _ => rfl) hE38 d_M_runnable_98 ?_
          refine xi_aload_n hC d_M_runnable_101 rfl 0 rfl ?_
          obtain ⟨v40, hE39, hE⟩ := xb1_inv hE
          refine xi_get (C := R_M) (T := T_M) (N := 19) (ci := 4) (k := 1) hC rfl iws_M (by decide) xt_214 (by decide) (xgI_inv hE39) d_M_runnable_102 ?_
          cases hE
          exact xi_iret hC hr hlk d_M_runnable_105
        · rw [if_pos hz14] at hE
          refine xi_bipush (v := (-4 : Int32)) hC d_M_runnable_53 (by decide) ?_
          cases hE
          exact xi_iret hC hr hlk d_M_runnable_55
      · rw [if_pos hz11] at hE
        refine xi_locs (lv' := []) [] rfl ?_
        exact s_M_runnable_41 hC hr hlk hnm _ _ _ _ hE
set_option maxRecDepth 100000 in
theorem x_M_runnable {l : Launch} {D : va_G} {r0 : Nat} {x1 : Int32} {x2 : Int32} {x3 : Int32} {n : Nat} {h : XH} {rr : Int32} {h' : XH} (hE : X_M_runnable r0 x1 x2 x3 h = some (rr, h')) : XMet l y_M_runnable c_M_runnable 4 (some .int) XTs XCL XNW XAL D ({ frames := 1, cells := 0, slots := 0, locals := 25 } : Room) 0 0 [.ref r0, .int x1, .int x2, .int x3] n h (some (.int rr)) n h' := by
  refine XMet.mk (by decide) xNW_good xTs_good (Nat.le_of_ble_eq_true rfl) ?_
  intro p e s m args below meth c A ad0 hC hr hlk hnm
  refine xi_locs (lv' := [(0, .ref r0), (1, .int x1), (2, .int x2), (3, .int x3)]) [0, 1, 2, 3] rfl ?_
  exact s_M_runnable_0 hC hr hlk hnm _ _ _ _ n h _ _ hE

set_option maxRecDepth 100000 in
set_option maxHeartbeats 4000000 in
theorem s_M_measure_113 {p : Program} {l : Launch} {e : Env} {s : State} {m : MethodId} {args : Array Value} {below : List Frame} {meth : Method} {c : Code} {D : va_G} {A : Nat → Prop} {ad0 : Nat → Nat} {n0 : Nat} (hC : XC p s m args c c_M_measure 5 y_M_measure.cls XTs XCL XNW XAL D A) (hr : meth.sig.returnType = none) (hlk : meth.locks = false) (hnm : meth.name = y_M_measure.name) {k35 : Nat → Int32 → XH → Option (XH)} {k45 : Nat → Int32 → Int32 → XH → Option (XH)} {k56 : Nat → Int32 → Int32 → Int32 → XH → Option (XH)} (n : Nat) (h' : XH) (hk35 : ∀ (r0 : Nat) (x2 : Int32) (h1 : XH), k35 r0 x2 h1 = some h' → XW p l e ({ frames := 0, cells := 0, slots := 0, locals := 0 } : Room) s m args below meth c 5 XCL D A ad0 n0 0 0 (MQ below (xQc D XCL n0 ad0 A none n h') args s 0 0 A) n h1 35 [(0, .ref r0), (2, .int x2)] []) (hk45 : ∀ (r0 : Nat) (x2 : Int32) (x3 : Int32) (h1 : XH), k45 r0 x2 x3 h1 = some h' → XW p l e ({ frames := 0, cells := 0, slots := 0, locals := 0 } : Room) s m args below meth c 5 XCL D A ad0 n0 0 0 (MQ below (xQc D XCL n0 ad0 A none n h') args s 0 0 A) n h1 45 [(0, .ref r0), (2, .int x2), (3, .int x3)] []) (hk56 : ∀ (r0 : Nat) (x2 : Int32) (x3 : Int32) (x4 : Int32) (h1 : XH), k56 r0 x2 x3 x4 h1 = some h' → XW p l e ({ frames := 0, cells := 0, slots := 0, locals := 0 } : Room) s m args below meth c 5 XCL D A ad0 n0 0 0 (MQ below (xQc D XCL n0 ad0 A none n h') args s 0 0 A) n h1 56 [(0, .ref r0), (2, .int x2), (3, .int x3), (4, .int x4)] []) (r0 : Nat) (x2 : Int32) (x3 : Int32) (x4 : Int32) (h : XH)  (hE : D_M_measure_113 k35 k45 k56 r0 x2 x3 x4 h = some h') : XW p l e ({ frames := 0, cells := 0, slots := 0, locals := 0 } : Room) s m args below meth c 5 XCL D A ad0 n0 0 0 (MQ below (xQc D XCL n0 ad0 A none n h') args s 0 0 A) n h 113 [(0, .ref r0), (2, .int x2), (3, .int x3), (4, .int x4)] [] := by
  unfold D_M_measure_113 at hE
  refine xi_iinc (v := x4 + 1) (lv' := [(4, .int (x4 + 1)), (0, .ref r0), (2, .int x2), (3, .int x3)]) hC d_M_measure_113 3 rfl rfl (by decide) rfl ?_
  refine xi_goto (tgt := 56) hC d_M_measure_116 (by decide) ?_
  refine xi_locs (lv' := [(0, .ref r0), (2, .int x2), (3, .int x3), (4, .int (x4 + 1))]) [1, 2, 3, 0] rfl ?_
  exact hk56 _ _ _ _ _ hE
set_option maxRecDepth 100000 in
set_option maxHeartbeats 4000000 in
theorem s_M_measure_56 {p : Program} {l : Launch} {e : Env} {s : State} {m : MethodId} {args : Array Value} {below : List Frame} {meth : Method} {c : Code} {D : va_G} {A : Nat → Prop} {ad0 : Nat → Nat} {n0 : Nat} (hC : XC p s m args c c_M_measure 5 y_M_measure.cls XTs XCL XNW XAL D A) (hr : meth.sig.returnType = none) (hlk : meth.locks = false) (hnm : meth.name = y_M_measure.name) {k35 : Nat → Int32 → XH → Option (XH)} {k45 : Nat → Int32 → Int32 → XH → Option (XH)} (n : Nat) (h' : XH) (hk35 : ∀ (r0 : Nat) (x2 : Int32) (h1 : XH), k35 r0 x2 h1 = some h' → XW p l e ({ frames := 0, cells := 0, slots := 0, locals := 0 } : Room) s m args below meth c 5 XCL D A ad0 n0 0 0 (MQ below (xQc D XCL n0 ad0 A none n h') args s 0 0 A) n h1 35 [(0, .ref r0), (2, .int x2)] []) (hk45 : ∀ (r0 : Nat) (x2 : Int32) (x3 : Int32) (h1 : XH), k45 r0 x2 x3 h1 = some h' → XW p l e ({ frames := 0, cells := 0, slots := 0, locals := 0 } : Room) s m args below meth c 5 XCL D A ad0 n0 0 0 (MQ below (xQc D XCL n0 ad0 A none n h') args s 0 0 A) n h1 45 [(0, .ref r0), (2, .int x2), (3, .int x3)] []) : ∀ (f : Nat) (r0 : Nat) (x2 : Int32) (x3 : Int32) (x4 : Int32) (h : XH) , D_M_measure_56 k35 k45 f r0 x2 x3 x4 h = some h' → XW p l e ({ frames := 0, cells := 0, slots := 0, locals := 0 } : Room) s m args below meth c 5 XCL D A ad0 n0 0 0 (MQ below (xQc D XCL n0 ad0 A none n h') args s 0 0 A) n h 56 [(0, .ref r0), (2, .int x2), (3, .int x3), (4, .int x4)] [] := by
  intro f
  induction f with
  | zero =>
    intro r0 x2 x3 x4 h hE
    exact absurd hE (by simp [D_M_measure_56])
  | succ fu ih =>
    intro r0 x2 x3 x4 h hE
    simp only [D_M_measure_56] at hE
    refine xi_iload hC d_M_measure_56 3 rfl ?_
    refine xi_aload_n hC d_M_measure_58 rfl 0 rfl ?_
    obtain ⟨v2, hE1, hE⟩ := xb1_inv hE
    refine xi_get (C := R_M) (T := T_M) (N := 19) (ci := 4) (k := 1) hC rfl iws_M (by decide) xt_214 (by decide) (xgI_inv hE1) d_M_measure_59 ?_
    refine xi_icmp_gt (tgt := 119) hC d_M_measure_62 (by decide) (fun hz3 => ?_) (fun hz3 => ?_)
    · rw [if_pos hz3] at hE
      refine xi_iinc (v := x3 + 1) (lv' := [(3, .int (x3 + 1)), (0, .ref r0), (2, .int x2), (4, .int x4)]) hC d_M_measure_119 2 rfl rfl (by decide) rfl ?_
      refine xi_goto (tgt := 45) hC d_M_measure_122 (by decide) ?_
      refine xi_locs (lv' := [(0, .ref r0), (2, .int x2), (3, .int (x3 + 1))]) [1, 2, 0] rfl ?_
      exact hk45 _ _ _ _ hE
    · rw [if_neg hz3] at hE
      refine xi_aload_n hC d_M_measure_65 rfl 0 rfl ?_
      obtain ⟨q5, hE4, hE⟩ := xb1_inv hE
      refine xi_get (C := R_M) (T := T_M) (N := 19) (ci := 4) (k := 5) hC rfl iws_M (by decide) xt_203 (by decide) (xgR_inv hE4) d_M_measure_66 ?_
      refine xi_iload hC d_M_measure_69 3 rfl ?_
      obtain ⟨v6, hE7, hE⟩ := xb1_inv hE
      refine xi_iald hC hE7 d_M_measure_71 ?_
      refine xi_iload_n hC d_M_measure_72 rfl 2 rfl ?_
      refine xi_ishr hC d_M_measure_73 ?_
      refine xi_iconst (v := (1 : Int32)) hC d_M_measure_74 (by decide) ?_
      refine xi_iand hC d_M_measure_75 ?_
      refine xi_iconst (v := (1 : Int32)) hC d_M_measure_76 (by decide) ?_
      refine xi_icmp_ne (tgt := 113) hC d_M_measure_77 (by decide) (fun hz8 => ?_) (fun hz8 => ?_)
      · rw [if_neg hz8] at hE
        refine xi_locs (lv' := [(0, .ref r0), (2, .int x2), (3, .int x3), (4, .int x4)]) [0, 1, 2, 3] rfl ?_
        exact s_M_measure_113 hC hr hlk hnm _ _ hk35 hk45 (fun y0 y1 y2 y3 h1 z => ih y0 y1 y2 y3 h1 z) _ _ _ _ _ hE
      · rw [if_pos hz8] at hE
        refine xi_aload_n hC d_M_measure_80 rfl 0 rfl ?_
        obtain ⟨q10, hE9, hE⟩ := xb1_inv hE
        refine xi_get (C := R_M) (T := T_M) (N := 19) (ci := 4) (k := 10) hC rfl iws_M (by decide) xt_207 (by decide) (xgR_inv hE9) d_M_measure_81 ?_
        refine xi_iload hC d_M_measure_84 3 rfl ?_
        obtain ⟨v11, hE12, hE⟩ := xb1_inv hE
        refine xi_iald hC hE12 d_M_measure_86 ?_
        refine xi_iconst (v := (1 : Int32)) hC d_M_measure_87 (by decide) ?_
        refine xi_iadd hC d_M_measure_88 ?_
        refine xi_aload_n hC d_M_measure_89 rfl 0 rfl ?_
        obtain ⟨q14, hE13, hE⟩ := xb1_inv hE
        refine xi_get (C := R_M) (T := T_M) (N := 19) (ci := 4) (k := 10) hC rfl iws_M (by decide) xt_207 (by decide) (xgR_inv hE13) d_M_measure_90 ?_
        refine xi_iload_n hC d_M_measure_93 rfl 2 rfl ?_
        obtain ⟨v15, hE16, hE⟩ := xb1_inv hE
        refine xi_iald hC hE16 d_M_measure_94 ?_
        refine xi_icmp_ge (tgt := 113) hC d_M_measure_95 (by decide) (fun hz17 => ?_) (fun hz17 => ?_)
        · rw [if_pos hz17] at hE
          refine xi_locs (lv' := [(0, .ref r0), (2, .int x2), (3, .int x3), (4, .int x4)]) [0, 1, 2, 3] rfl ?_
          exact s_M_measure_113 hC hr hlk hnm _ _ hk35 hk45 (fun y0 y1 y2 y3 h1 z => ih y0 y1 y2 y3 h1 z) _ _ _ _ _ hE
        · rw [if_neg hz17] at hE
          refine xi_aload_n hC d_M_measure_98 rfl 0 rfl ?_
          obtain ⟨q19, hE18, hE⟩ := xb1_inv hE
          refine xi_get (C := R_M) (T := T_M) (N := 19) (ci := 4) (k := 10) hC rfl iws_M (by decide) xt_207 (by decide) (xgR_inv hE18) d_M_measure_99 ?_
          refine xi_iload_n hC d_M_measure_102 rfl 2 rfl ?_
          refine xi_aload_n hC d_M_measure_103 rfl 0 rfl ?_
          obtain ⟨q21, hE20, hE⟩ := xb1_inv hE
          refine xi_get (C := R_M) (T := T_M) (N := 19) (ci := 4) (k := 10) hC rfl iws_M (by decide) xt_207 (by decide) (xgR_inv hE20) d_M_measure_104 ?_
          refine xi_iload hC d_M_measure_107 3 rfl ?_
          obtain ⟨v22, hE23, hE⟩ := xb1_inv hE
          refine xi_iald hC hE23 d_M_measure_109 ?_
          refine xi_iconst (v := (1 : Int32)) hC d_M_measure_110 (by decide) ?_
          refine xi_iadd hC d_M_measure_111 ?_
          obtain ⟨h24, hE25, hE⟩ := xb1_inv hE
          refine xi_iast hC hE25 d_M_measure_112 ?_
          refine xi_locs (lv' := [(0, .ref r0), (2, .int x2), (3, .int x3), (4, .int x4)]) [0, 1, 2, 3] rfl ?_
          exact s_M_measure_113 hC hr hlk hnm _ _ hk35 hk45 (fun y0 y1 y2 y3 h1 z => ih y0 y1 y2 y3 h1 z) _ _ _ _ _ hE
set_option maxRecDepth 100000 in
set_option maxHeartbeats 4000000 in
theorem s_M_measure_45 {p : Program} {l : Launch} {e : Env} {s : State} {m : MethodId} {args : Array Value} {below : List Frame} {meth : Method} {c : Code} {D : va_G} {A : Nat → Prop} {ad0 : Nat → Nat} {n0 : Nat} (hC : XC p s m args c c_M_measure 5 y_M_measure.cls XTs XCL XNW XAL D A) (hr : meth.sig.returnType = none) (hlk : meth.locks = false) (hnm : meth.name = y_M_measure.name) {k35 : Nat → Int32 → XH → Option (XH)} (n : Nat) (h' : XH) (hk35 : ∀ (r0 : Nat) (x2 : Int32) (h1 : XH), k35 r0 x2 h1 = some h' → XW p l e ({ frames := 0, cells := 0, slots := 0, locals := 0 } : Room) s m args below meth c 5 XCL D A ad0 n0 0 0 (MQ below (xQc D XCL n0 ad0 A none n h') args s 0 0 A) n h1 35 [(0, .ref r0), (2, .int x2)] []) : ∀ (f : Nat) (r0 : Nat) (x2 : Int32) (x3 : Int32) (h : XH) , D_M_measure_45 k35 f r0 x2 x3 h = some h' → XW p l e ({ frames := 0, cells := 0, slots := 0, locals := 0 } : Room) s m args below meth c 5 XCL D A ad0 n0 0 0 (MQ below (xQc D XCL n0 ad0 A none n h') args s 0 0 A) n h 45 [(0, .ref r0), (2, .int x2), (3, .int x3)] [] := by
  intro f
  induction f with
  | zero =>
    intro r0 x2 x3 h hE
    exact absurd hE (by simp [D_M_measure_45])
  | succ fu ih =>
    intro r0 x2 x3 h hE
    simp only [D_M_measure_45] at hE
    refine xi_iload_n hC d_M_measure_45 rfl 2 rfl ?_
    refine xi_aload_n hC d_M_measure_46 rfl 0 rfl ?_
    obtain ⟨v2, hE1, hE⟩ := xb1_inv hE
    refine xi_get (C := R_M) (T := T_M) (N := 19) (ci := 4) (k := 1) hC rfl iws_M (by decide) xt_214 (by decide) (xgI_inv hE1) d_M_measure_47 ?_
    refine xi_icmp_gt (tgt := 125) hC d_M_measure_50 (by decide) (fun hz3 => ?_) (fun hz3 => ?_)
    · rw [if_pos hz3] at hE
      refine xi_iinc (v := x2 + 1) (lv' := [(2, .int (x2 + 1)), (0, .ref r0), (3, .int x3)]) hC d_M_measure_125 1 rfl rfl (by decide) rfl ?_
      refine xi_goto (tgt := 35) hC d_M_measure_128 (by decide) ?_
      refine xi_locs (lv' := [(0, .ref r0), (2, .int (x2 + 1))]) [1, 0] rfl ?_
      exact hk35 _ _ _ hE
    · rw [if_neg hz3] at hE
      refine xi_iconst (v := (1 : Int32)) hC d_M_measure_53 (by decide) ?_
      refine xi_istore (lv' := [(4, .int (1 : Int32)), (0, .ref r0), (2, .int x2), (3, .int x3)]) hC d_M_measure_54 (by decide) rfl ?_
      refine xi_locs (lv' := [(0, .ref r0), (2, .int x2), (3, .int x3), (4, .int (1 : Int32))]) [1, 2, 3, 0] rfl ?_
      exact s_M_measure_56 hC hr hlk hnm _ _ hk35 (fun y0 y1 y2 h1 z => ih y0 y1 y2 h1 z) 5000 _ _ _ _ _ hE
set_option maxRecDepth 100000 in
set_option maxHeartbeats 4000000 in
theorem s_M_measure_35 {p : Program} {l : Launch} {e : Env} {s : State} {m : MethodId} {args : Array Value} {below : List Frame} {meth : Method} {c : Code} {D : va_G} {A : Nat → Prop} {ad0 : Nat → Nat} {n0 : Nat} (hC : XC p s m args c c_M_measure 5 y_M_measure.cls XTs XCL XNW XAL D A) (hr : meth.sig.returnType = none) (hlk : meth.locks = false) (hnm : meth.name = y_M_measure.name)   : ∀ (f : Nat) (r0 : Nat) (x2 : Int32) (n : Nat) (h : XH) (h' : XH), D_M_measure_35  f r0 x2 h = some h' → XW p l e ({ frames := 0, cells := 0, slots := 0, locals := 0 } : Room) s m args below meth c 5 XCL D A ad0 n0 0 0 (MQ below (xQc D XCL n0 ad0 A none n h') args s 0 0 A) n h 35 [(0, .ref r0), (2, .int x2)] [] := by
  intro f
  induction f with
  | zero =>
    intro r0 x2 n h h' hE
    exact absurd hE (by simp [D_M_measure_35])
  | succ fu ih =>
    intro r0 x2 n h h' hE
    simp only [D_M_measure_35] at hE
    refine xi_iload_n hC d_M_measure_35 rfl 1 rfl ?_
    refine xi_aload_n hC d_M_measure_36 rfl 0 rfl ?_
    obtain ⟨v2, hE1, hE⟩ := xb1_inv hE
    refine xi_get (C := R_M) (T := T_M) (N := 19) (ci := 4) (k := 1) hC rfl iws_M (by decide) xt_214 (by decide) (xgI_inv hE1) d_M_measure_37 ?_
    refine xi_icmp_ge (tgt := 131) hC d_M_measure_40 (by decide) (fun hz3 => ?_) (fun hz3 => ?_)
    · rw [if_pos hz3] at hE
      cases hE
      exact xi_vret hC hr hlk d_M_measure_131
    · rw [if_neg hz3] at hE
      refine xi_iconst (v := (1 : Int32)) hC d_M_measure_43 (by decide) ?_
      refine xi_istore_n (lv' := [(3, .int (1 : Int32)), (0, .ref r0), (2, .int x2)]) hC d_M_measure_44 rfl (by decide) rfl ?_
      refine xi_locs (lv' := [(0, .ref r0), (2, .int x2), (3, .int (1 : Int32))]) [1, 2, 0] rfl ?_
      exact s_M_measure_45 hC hr hlk hnm _ _ (fun y0 y1 h1 z => ih y0 y1 _ h1 _ z) 5000 _ _ _ _ hE
set_option maxRecDepth 100000 in
set_option maxHeartbeats 4000000 in
theorem s_M_measure_26 {p : Program} {l : Launch} {e : Env} {s : State} {m : MethodId} {args : Array Value} {below : List Frame} {meth : Method} {c : Code} {D : va_G} {A : Nat → Prop} {ad0 : Nat → Nat} {n0 : Nat} (hC : XC p s m args c c_M_measure 5 y_M_measure.cls XTs XCL XNW XAL D A) (hr : meth.sig.returnType = none) (hlk : meth.locks = false) (hnm : meth.name = y_M_measure.name) {k2 : Nat → Int32 → Int32 → XH → Option (XH)} (n : Nat) (h' : XH) (hk2 : ∀ (r0 : Nat) (x1 : Int32) (x2 : Int32) (h1 : XH), k2 r0 x1 x2 h1 = some h' → XW p l e ({ frames := 0, cells := 0, slots := 0, locals := 0 } : Room) s m args below meth c 5 XCL D A ad0 n0 0 0 (MQ below (xQc D XCL n0 ad0 A none n h') args s 0 0 A) n h1 2 [(0, .ref r0), (1, .int x1), (2, .int x2)] []) (r0 : Nat) (x1 : Int32) (x2 : Int32) (s0 : Int32) (s1 : Int32) (s2 : Nat) (h : XH)  (hE : D_M_measure_26 k2 r0 x1 x2 s0 s1 s2 h = some h') : XW p l e ({ frames := 0, cells := 0, slots := 0, locals := 0 } : Room) s m args below meth c 5 XCL D A ad0 n0 0 0 (MQ below (xQc D XCL n0 ad0 A none n h') args s 0 0 A) n h 26 [(0, .ref r0), (1, .int x1), (2, .int x2)] [.int s0, .int s1, .ref s2] := by
  unfold D_M_measure_26 at hE
  obtain ⟨h1, hE2, hE⟩ := xb1_inv hE
  refine xi_iast hC hE2 d_M_measure_26 ?_
  refine xi_iinc (v := x2 + 1) (lv' := [(2, .int (x2 + 1)), (0, .ref r0), (1, .int x1)]) hC d_M_measure_27 2 rfl rfl (by decide) rfl ?_
  refine xi_goto (tgt := 2) hC d_M_measure_30 (by decide) ?_
  refine xi_locs (lv' := [(0, .ref r0), (1, .int x1), (2, .int (x2 + 1))]) [1, 2, 0] rfl ?_
  exact hk2 _ _ _ _ hE
set_option maxRecDepth 100000 in
set_option maxHeartbeats 4000000 in
theorem s_M_measure_2 {p : Program} {l : Launch} {e : Env} {s : State} {m : MethodId} {args : Array Value} {below : List Frame} {meth : Method} {c : Code} {D : va_G} {A : Nat → Prop} {ad0 : Nat → Nat} {n0 : Nat} (hC : XC p s m args c c_M_measure 5 y_M_measure.cls XTs XCL XNW XAL D A) (hr : meth.sig.returnType = none) (hlk : meth.locks = false) (hnm : meth.name = y_M_measure.name)   : ∀ (f : Nat) (r0 : Nat) (x1 : Int32) (x2 : Int32) (n : Nat) (h : XH) (h' : XH), D_M_measure_2  f r0 x1 x2 h = some h' → XW p l e ({ frames := 0, cells := 0, slots := 0, locals := 0 } : Room) s m args below meth c 5 XCL D A ad0 n0 0 0 (MQ below (xQc D XCL n0 ad0 A none n h') args s 0 0 A) n h 2 [(0, .ref r0), (1, .int x1), (2, .int x2)] [] := by
  intro f
  induction f with
  | zero =>
    intro r0 x1 x2 n h h' hE
    exact absurd hE (by simp [D_M_measure_2])
  | succ fu ih =>
    intro r0 x1 x2 n h h' hE
    simp only [D_M_measure_2] at hE
    refine xi_iload_n hC d_M_measure_2 rfl 2 rfl ?_
    refine xi_aload_n hC d_M_measure_3 rfl 0 rfl ?_
    obtain ⟨v2, hE1, hE⟩ := xb1_inv hE
    refine xi_get (C := R_M) (T := T_M) (N := 19) (ci := 4) (k := 1) hC rfl iws_M (by decide) xt_214 (by decide) (xgI_inv hE1) d_M_measure_4 ?_
    refine xi_icmp_gt (tgt := 33) hC d_M_measure_7 (by decide) (fun hz3 => ?_) (fun hz3 => ?_)
    · rw [if_pos hz3] at hE
      refine xi_iconst (v := (0 : Int32)) hC d_M_measure_33 (by decide) ?_
      refine xi_istore_n (lv' := [(2, .int (0 : Int32)), (0, .ref r0), (1, .int x1)]) hC d_M_measure_34 rfl (by decide) rfl ?_
      refine xi_locs (lv' := [(0, .ref r0), (2, .int (0 : Int32))]) [1, 0] rfl ?_
      exact s_M_measure_35 hC hr hlk hnm 5000 _ _ _ _ _ hE
    · rw [if_neg hz3] at hE
      refine xi_aload_n hC d_M_measure_10 rfl 0 rfl ?_
      obtain ⟨q5, hE4, hE⟩ := xb1_inv hE
      refine xi_get (C := R_M) (T := T_M) (N := 19) (ci := 4) (k := 10) hC rfl iws_M (by decide) xt_207 (by decide) (xgR_inv hE4) d_M_measure_11 ?_
      refine xi_iload_n hC d_M_measure_14 rfl 2 rfl ?_
      refine xi_iload_n hC d_M_measure_15 rfl 2 rfl ?_
      refine xi_iload_n hC d_M_measure_16 rfl 1 rfl ?_
      refine xi_icmp_ne (tgt := 24) hC d_M_measure_17 (by decide) (fun hz6 => ?_) (fun hz6 => ?_)
      · rw [if_neg hz6] at hE
        refine xi_bipush (v := (99 : Int32)) hC d_M_measure_24 (by decide) ?_
        refine xi_locs (lv' := [(0, .ref r0), (1, .int x1), (2, .int x2)]) [0, 1, 2] rfl ?_
        exact s_M_measure_26 hC hr hlk hnm _ _ (fun y0 y1 y2 h1 z => ih y0 y1 y2 _ h1 _ z) _ _ _ _ _ _ _ hE
      · rw [if_pos hz6] at hE
        refine xi_iconst (v := (0 : Int32)) hC d_M_measure_20 (by decide) ?_
        refine xi_goto (tgt := 26) hC d_M_measure_21 (by decide) ?_
        refine xi_locs (lv' := [(0, .ref r0), (1, .int x1), (2, .int x2)]) [0, 1, 2] rfl ?_
        exact s_M_measure_26 hC hr hlk hnm _ _ (fun y0 y1 y2 h1 z => ih y0 y1 y2 _ h1 _ z) _ _ _ _ _ _ _ hE
set_option maxRecDepth 100000 in
set_option maxHeartbeats 4000000 in
theorem s_M_measure_0 {p : Program} {l : Launch} {e : Env} {s : State} {m : MethodId} {args : Array Value} {below : List Frame} {meth : Method} {c : Code} {D : va_G} {A : Nat → Prop} {ad0 : Nat → Nat} {n0 : Nat} (hC : XC p s m args c c_M_measure 5 y_M_measure.cls XTs XCL XNW XAL D A) (hr : meth.sig.returnType = none) (hlk : meth.locks = false) (hnm : meth.name = y_M_measure.name)   (r0 : Nat) (x1 : Int32) (n : Nat) (h : XH) (h' : XH) (hE : D_M_measure_0  r0 x1 h = some h') : XW p l e ({ frames := 0, cells := 0, slots := 0, locals := 0 } : Room) s m args below meth c 5 XCL D A ad0 n0 0 0 (MQ below (xQc D XCL n0 ad0 A none n h') args s 0 0 A) n h 0 [(0, .ref r0), (1, .int x1)] [] := by
  unfold D_M_measure_0 at hE
  refine xi_iconst (v := (1 : Int32)) hC d_M_measure_0 (by decide) ?_
  refine xi_istore_n (lv' := [(2, .int (1 : Int32)), (0, .ref r0), (1, .int x1)]) hC d_M_measure_1 rfl (by decide) rfl ?_
  refine xi_locs (lv' := [(0, .ref r0), (1, .int x1), (2, .int (1 : Int32))]) [1, 2, 0] rfl ?_
  exact s_M_measure_2 hC hr hlk hnm 5000 _ _ _ _ _ _ hE
set_option maxRecDepth 100000 in
theorem x_M_measure {l : Launch} {D : va_G} {r0 : Nat} {x1 : Int32} {n : Nat} {h : XH} {h' : XH} (hE : X_M_measure r0 x1 h = some h') : XMet l y_M_measure c_M_measure 5 none XTs XCL XNW XAL D ({ frames := 0, cells := 0, slots := 0, locals := 0 } : Room) 0 0 [.ref r0, .int x1] n h none n h' := by
  refine XMet.mk (by decide) xNW_good xTs_good (Nat.le_of_ble_eq_true rfl) ?_
  intro p e s m args below meth c A ad0 hC hr hlk hnm
  refine xi_locs (lv' := [(0, .ref r0), (1, .int x1)]) [0, 1] rfl ?_
  exact s_M_measure_0 hC hr hlk hnm _ _ n h _ hE

set_option maxRecDepth 100000 in
set_option maxHeartbeats 4000000 in
theorem s_M_tellRing_60 {p : Program} {l : Launch} {e : Env} {s : State} {m : MethodId} {args : Array Value} {below : List Frame} {meth : Method} {c : Code} {D : va_G} {A : Nat → Prop} {ad0 : Nat → Nat} {n0 : Nat} (hC : XC p s m args c c_M_tellRing 4 y_M_tellRing.cls XTs XCL XNW XAL D A) (hr : meth.sig.returnType = none) (hlk : meth.locks = false) (hnm : meth.name = y_M_tellRing.name) {k19 : Nat → Int32 → XH → Option (XH)} {k30 : Nat → Int32 → Int32 → XH → Option (XH)} (n : Nat) (h' : XH) (hk19 : ∀ (r0 : Nat) (x2 : Int32) (h1 : XH), k19 r0 x2 h1 = some h' → XW p l e ({ frames := 0, cells := 0, slots := 0, locals := 0 } : Room) s m args below meth c 4 XCL D A ad0 n0 0 0 (MQ below (xQc D XCL n0 ad0 A none n h') args s 0 0 A) n h1 19 [(0, .ref r0), (2, .int x2)] []) (hk30 : ∀ (r0 : Nat) (x2 : Int32) (x3 : Int32) (h1 : XH), k30 r0 x2 x3 h1 = some h' → XW p l e ({ frames := 0, cells := 0, slots := 0, locals := 0 } : Room) s m args below meth c 4 XCL D A ad0 n0 0 0 (MQ below (xQc D XCL n0 ad0 A none n h') args s 0 0 A) n h1 30 [(0, .ref r0), (2, .int x2), (3, .int x3)] []) (r0 : Nat) (x2 : Int32) (x3 : Int32) (h : XH)  (hE : D_M_tellRing_60 k19 k30 r0 x2 x3 h = some h') : XW p l e ({ frames := 0, cells := 0, slots := 0, locals := 0 } : Room) s m args below meth c 4 XCL D A ad0 n0 0 0 (MQ below (xQc D XCL n0 ad0 A none n h') args s 0 0 A) n h 60 [(0, .ref r0), (2, .int x2), (3, .int x3)] [] := by
  unfold D_M_tellRing_60 at hE
  refine xi_iinc (v := x3 + 1) (lv' := [(3, .int (x3 + 1)), (0, .ref r0), (2, .int x2)]) hC d_M_tellRing_60 2 rfl rfl (by decide) rfl ?_
  refine xi_goto (tgt := 30) hC d_M_tellRing_63 (by decide) ?_
  refine xi_locs (lv' := [(0, .ref r0), (2, .int x2), (3, .int (x3 + 1))]) [1, 2, 0] rfl ?_
  exact hk30 _ _ _ _ hE
set_option maxRecDepth 100000 in
set_option maxHeartbeats 4000000 in
theorem s_M_tellRing_30 {p : Program} {l : Launch} {e : Env} {s : State} {m : MethodId} {args : Array Value} {below : List Frame} {meth : Method} {c : Code} {D : va_G} {A : Nat → Prop} {ad0 : Nat → Nat} {n0 : Nat} (hC : XC p s m args c c_M_tellRing 4 y_M_tellRing.cls XTs XCL XNW XAL D A) (hr : meth.sig.returnType = none) (hlk : meth.locks = false) (hnm : meth.name = y_M_tellRing.name) {k19 : Nat → Int32 → XH → Option (XH)} (n : Nat) (h' : XH) (hk19 : ∀ (r0 : Nat) (x2 : Int32) (h1 : XH), k19 r0 x2 h1 = some h' → XW p l e ({ frames := 0, cells := 0, slots := 0, locals := 0 } : Room) s m args below meth c 4 XCL D A ad0 n0 0 0 (MQ below (xQc D XCL n0 ad0 A none n h') args s 0 0 A) n h1 19 [(0, .ref r0), (2, .int x2)] []) : ∀ (f : Nat) (r0 : Nat) (x2 : Int32) (x3 : Int32) (h : XH) , D_M_tellRing_30 k19 f r0 x2 x3 h = some h' → XW p l e ({ frames := 0, cells := 0, slots := 0, locals := 0 } : Room) s m args below meth c 4 XCL D A ad0 n0 0 0 (MQ below (xQc D XCL n0 ad0 A none n h') args s 0 0 A) n h 30 [(0, .ref r0), (2, .int x2), (3, .int x3)] [] := by
  intro f
  induction f with
  | zero =>
    intro r0 x2 x3 h hE
    exact absurd hE (by simp [D_M_tellRing_30])
  | succ fu ih =>
    intro r0 x2 x3 h hE
    simp only [D_M_tellRing_30] at hE
    refine xi_aload_n hC d_M_tellRing_30 rfl 0 rfl ?_
    obtain ⟨q2, hE1, hE⟩ := xb1_inv hE
    refine xi_get (C := R_M) (T := T_M) (N := 19) (ci := 4) (k := 5) hC rfl iws_M (by decide) xt_203 (by decide) (xgR_inv hE1) d_M_tellRing_31 ?_
    refine xi_iload_n hC d_M_tellRing_34 rfl 2 rfl ?_
    obtain ⟨v3, hE4, hE⟩ := xb1_inv hE
    refine xi_iald hC hE4 d_M_tellRing_35 ?_
    refine xi_iload_n hC d_M_tellRing_36 rfl 1 rfl ?_
    refine xi_ishr hC d_M_tellRing_37 ?_
    refine xi_iconst (v := (1 : Int32)) hC d_M_tellRing_38 (by decide) ?_
    refine xi_iand hC d_M_tellRing_39 ?_
    refine xi_if_eq (tgt := 60) hC d_M_tellRing_40 (by decide) (fun hz5 => ?_) (fun hz5 => ?_)
    · rw [if_pos hz5] at hE
      refine xi_locs (lv' := [(0, .ref r0), (2, .int x2), (3, .int x3)]) [0, 1, 2] rfl ?_
      exact s_M_tellRing_60 hC hr hlk hnm _ _ hk19 (fun y0 y1 y2 h1 z => ih y0 y1 y2 h1 z) _ _ _ _ hE
    · rw [if_neg hz5] at hE
      refine xi_aload_n hC d_M_tellRing_43 rfl 0 rfl ?_
      obtain ⟨q7, hE6, hE⟩ := xb1_inv hE
      refine xi_get (C := R_M) (T := T_M) (N := 19) (ci := 4) (k := 10) hC rfl iws_M (by decide) xt_207 (by decide) (xgR_inv hE6) d_M_tellRing_44 ?_
      refine xi_iload_n hC d_M_tellRing_47 rfl 2 rfl ?_
      obtain ⟨v8, hE9, hE⟩ := xb1_inv hE
      refine xi_iald hC hE9 d_M_tellRing_48 ?_
      refine xi_aload_n hC d_M_tellRing_49 rfl 0 rfl ?_
      obtain ⟨q11, hE10, hE⟩ := xb1_inv hE
      refine xi_get (C := R_M) (T := T_M) (N := 19) (ci := 4) (k := 10) hC rfl iws_M (by decide) xt_207 (by decide) (xgR_inv hE10) d_M_tellRing_50 ?_
      refine xi_iload_n hC d_M_tellRing_53 rfl 1 rfl ?_
      obtain ⟨v12, hE13, hE⟩ := xb1_inv hE
      refine xi_iald hC hE13 d_M_tellRing_54 ?_
      refine xi_iconst (v := (1 : Int32)) hC d_M_tellRing_55 (by decide) ?_
      refine xi_isub hC d_M_tellRing_56 ?_
      refine xi_icmp_eq (tgt := 66) hC d_M_tellRing_57 (by decide) (fun hz14 => ?_) (fun hz14 => ?_)
      · rw [if_pos hz14] at hE
        refine xi_iload_n hC d_M_tellRing_66 rfl 2 rfl ?_
        refine xi_istore_n (lv' := [(2, .int x3), (0, .ref r0), (3, .int x3)]) hC d_M_tellRing_67 rfl (by decide) rfl ?_
        refine xi_aload_n hC d_M_tellRing_68 rfl 1 rfl ?_
        obtain ⟨q16, hE15, hE⟩ := xb1_inv hE
        refine xi_get (C := R_M) (T := T_M) (N := 19) (ci := 4) (k := 9) hC rfl iws_M (by decide) xt_206 (by decide) (xgR_inv hE15) d_M_tellRing_69 ?_
        refine xi_aload_n hC d_M_tellRing_72 rfl 1 rfl ?_
        obtain ⟨v18, hE17, hE⟩ := xb1_inv hE
        refine xi_get (C := R_M) (T := T_M) (N := 19) (ci := 4) (k := 8) hC rfl iws_M (by decide) xt_224 (by decide) (xgI_inv hE17) d_M_tellRing_73 ?_
        refine xi_iload_n hC d_M_tellRing_76 rfl 0 rfl ?_
        obtain ⟨h19, hE20, hE⟩ := xb1_inv hE
        refine xi_iast hC hE20 d_M_tellRing_77 ?_
        refine xi_aload_n hC d_M_tellRing_78 rfl 1 rfl ?_
        refine xi_dup hC d_M_tellRing_79 rfl ?_
        obtain ⟨v22, hE21, hE⟩ := xb1_inv hE
        refine xi_get (C := R_M) (T := T_M) (N := 19) (ci := 4) (k := 8) hC rfl iws_M (by decide) xt_224 (by decide) (xgI_inv hE21) d_M_tellRing_80 ?_
        refine xi_iconst (v := (1 : Int32)) hC d_M_tellRing_83 (by decide) ?_
        refine xi_iadd hC d_M_tellRing_84 ?_
        obtain ⟨h23, hE24, hE⟩ := xb1_inv hE
        refine xi_put (C := R_M) (T := T_M) (N := 19) (ci := 4) (k := 8) hC ty_M rfl iws_M tok_M nok_M (by decide) xt_224 (by decide) rfl (fun _ => rfl) (fun _ => rfl) hE24 d_M_tellRing_85 ?_
        refine xi_goto (tgt := 19) hC d_M_tellRing_88 (by decide) ?_
        refine xi_locs (lv' := [(0, .ref r0), (2, .int x3)]) [1, 0] rfl ?_
        exact hk19 _ _ _ hE
      · rw [if_neg hz14] at hE
        refine xi_locs (lv' := [(0, .ref r0), (2, .int x2), (3, .int x3)]) [0, 1, 2] rfl ?_
        exact s_M_tellRing_60 hC hr hlk hnm _ _ hk19 (fun y0 y1 y2 h1 z => ih y0 y1 y2 h1 z) _ _ _ _ hE
set_option maxRecDepth 100000 in
set_option maxHeartbeats 4000000 in
theorem s_M_tellRing_19 {p : Program} {l : Launch} {e : Env} {s : State} {m : MethodId} {args : Array Value} {below : List Frame} {meth : Method} {c : Code} {D : va_G} {A : Nat → Prop} {ad0 : Nat → Nat} {n0 : Nat} (hC : XC p s m args c c_M_tellRing 4 y_M_tellRing.cls XTs XCL XNW XAL D A) (hr : meth.sig.returnType = none) (hlk : meth.locks = false) (hnm : meth.name = y_M_tellRing.name)   : ∀ (f : Nat) (r0 : Nat) (x2 : Int32) (n : Nat) (h : XH) (h' : XH), D_M_tellRing_19  f r0 x2 h = some h' → XW p l e ({ frames := 0, cells := 0, slots := 0, locals := 0 } : Room) s m args below meth c 4 XCL D A ad0 n0 0 0 (MQ below (xQc D XCL n0 ad0 A none n h') args s 0 0 A) n h 19 [(0, .ref r0), (2, .int x2)] [] := by
  intro f
  induction f with
  | zero =>
    intro r0 x2 n h h' hE
    exact absurd hE (by simp [D_M_tellRing_19])
  | succ fu ih =>
    intro r0 x2 n h h' hE
    simp only [D_M_tellRing_19] at hE
    refine xi_aload_n hC d_M_tellRing_19 rfl 0 rfl ?_
    obtain ⟨q2, hE1, hE⟩ := xb1_inv hE
    refine xi_get (C := R_M) (T := T_M) (N := 19) (ci := 4) (k := 10) hC rfl iws_M (by decide) xt_207 (by decide) (xgR_inv hE1) d_M_tellRing_20 ?_
    refine xi_iload_n hC d_M_tellRing_23 rfl 1 rfl ?_
    obtain ⟨v3, hE4, hE⟩ := xb1_inv hE
    refine xi_iald hC hE4 d_M_tellRing_24 ?_
    refine xi_if_le (tgt := 91) hC d_M_tellRing_25 (by decide) (fun hz5 => ?_) (fun hz5 => ?_)
    · rw [if_pos hz5] at hE
      cases hE
      exact xi_vret hC hr hlk d_M_tellRing_91
    · rw [if_neg hz5] at hE
      refine xi_iconst (v := (1 : Int32)) hC d_M_tellRing_28 (by decide) ?_
      refine xi_istore_n (lv' := [(3, .int (1 : Int32)), (0, .ref r0), (2, .int x2)]) hC d_M_tellRing_29 rfl (by decide) rfl ?_
      refine xi_locs (lv' := [(0, .ref r0), (2, .int x2), (3, .int (1 : Int32))]) [1, 2, 0] rfl ?_
      exact s_M_tellRing_30 hC hr hlk hnm _ _ (fun y0 y1 h1 z => ih y0 y1 _ h1 _ z) 5000 _ _ _ _ hE
set_option maxRecDepth 100000 in
set_option maxHeartbeats 4000000 in
theorem s_M_tellRing_0 {p : Program} {l : Launch} {e : Env} {s : State} {m : MethodId} {args : Array Value} {below : List Frame} {meth : Method} {c : Code} {D : va_G} {A : Nat → Prop} {ad0 : Nat → Nat} {n0 : Nat} (hC : XC p s m args c c_M_tellRing 4 y_M_tellRing.cls XTs XCL XNW XAL D A) (hr : meth.sig.returnType = none) (hlk : meth.locks = false) (hnm : meth.name = y_M_tellRing.name)   (r0 : Nat) (x1 : Int32) (n : Nat) (h : XH) (h' : XH) (hE : D_M_tellRing_0  r0 x1 h = some h') : XW p l e ({ frames := 0, cells := 0, slots := 0, locals := 0 } : Room) s m args below meth c 4 XCL D A ad0 n0 0 0 (MQ below (xQc D XCL n0 ad0 A none n h') args s 0 0 A) n h 0 [(0, .ref r0), (1, .int x1)] [] := by
  unfold D_M_tellRing_0 at hE
  refine xi_aload_n hC d_M_tellRing_0 rfl 0 rfl ?_
  refine xi_iconst (v := (0 : Int32)) hC d_M_tellRing_1 (by decide) ?_
  obtain ⟨h1, hE2, hE⟩ := xb1_inv hE
  refine xi_put (C := R_M) (T := T_M) (N := 19) (ci := 4) (k := 8) hC ty_M rfl iws_M tok_M nok_M (by decide) xt_224 (by decide) rfl (fun _ => rfl) (fun _ => rfl) hE2 d_M_tellRing_2 ?_
  refine xi_iload_n hC d_M_tellRing_5 rfl 1 rfl ?_
  refine xi_istore_n (lv' := [(2, .int x1), (0, .ref r0), (1, .int x1)]) hC d_M_tellRing_6 rfl (by decide) rfl ?_
  refine xi_aload_n hC d_M_tellRing_7 rfl 1 rfl ?_
  obtain ⟨q4, hE3, hE⟩ := xb1_inv hE
  refine xi_get (C := R_M) (T := T_M) (N := 19) (ci := 4) (k := 9) hC rfl iws_M (by decide) xt_206 (by decide) (xgR_inv hE3) d_M_tellRing_8 ?_
  refine xi_iconst (v := (0 : Int32)) hC d_M_tellRing_11 (by decide) ?_
  refine xi_iload_n hC d_M_tellRing_12 rfl 2 rfl ?_
  obtain ⟨h5, hE6, hE⟩ := xb1_inv hE
  refine xi_iast hC hE6 d_M_tellRing_13 ?_
  refine xi_aload_n hC d_M_tellRing_14 rfl 1 rfl ?_
  refine xi_iconst (v := (1 : Int32)) hC d_M_tellRing_15 (by decide) ?_
  obtain ⟨h7, hE8, hE⟩ := xb1_inv hE
  refine xi_put (C := R_M) (T := T_M) (N := 19) (ci := 4) (k := 8) hC ty_M rfl iws_M tok_M nok_M (by decide) xt_224 (by decide) rfl (fun _ => rfl) (fun _ => rfl) hE8 d_M_tellRing_16 ?_
  refine xi_locs (lv' := [(0, .ref r0), (2, .int x1)]) [1, 0] rfl ?_
  exact s_M_tellRing_19 hC hr hlk hnm 5000 _ _ _ _ _ hE
set_option maxRecDepth 100000 in
theorem x_M_tellRing {l : Launch} {D : va_G} {r0 : Nat} {x1 : Int32} {n : Nat} {h : XH} {h' : XH} (hE : X_M_tellRing r0 x1 h = some h') : XMet l y_M_tellRing c_M_tellRing 4 none XTs XCL XNW XAL D ({ frames := 0, cells := 0, slots := 0, locals := 0 } : Room) 0 0 [.ref r0, .int x1] n h none n h' := by
  refine XMet.mk (by decide) xNW_good xTs_good (Nat.le_of_ble_eq_true rfl) ?_
  intro p e s m args below meth c A ad0 hC hr hlk hnm
  refine xi_locs (lv' := [(0, .ref r0), (1, .int x1)]) [0, 1] rfl ?_
  exact s_M_tellRing_0 hC hr hlk hnm _ _ n h _ hE

set_option maxRecDepth 100000 in
set_option maxHeartbeats 4000000 in
theorem s_M_needs_21 {p : Program} {l : Launch} {e : Env} {s : State} {m : MethodId} {args : Array Value} {below : List Frame} {meth : Method} {c : Code} {D : va_G} {A : Nat → Prop} {ad0 : Nat → Nat} {n0 : Nat} (hC : XC p s m args c c_M_needs 4 y_M_needs.cls XTs XCL XNW XAL D A) (hr : meth.sig.returnType = some .int) (hlk : meth.locks = false) (hnm : meth.name = y_M_needs.name)    (n : Nat) (h : XH) (rr : Int32) (h' : XH) (hE : D_M_needs_21   h = some (rr, h')) : XW p l e ({ frames := 2, cells := 0, slots := 0, locals := 46 } : Room) s m args below meth c 4 XCL D A ad0 n0 0 0 (MQ below (xQc D XCL n0 ad0 A (some (.int rr)) n h') args s 0 0 A) n h 21 [] [] := by
  unfold D_M_needs_21 at hE
  refine xi_iconst (v := (-1 : Int32)) hC d_M_needs_21 (by decide) ?_
  cases hE
  exact xi_iret hC hr hlk d_M_needs_22
set_option maxRecDepth 100000 in
set_option maxHeartbeats 4000000 in
theorem s_M_needs_0 {p : Program} {l : Launch} {e : Env} {s : State} {m : MethodId} {args : Array Value} {below : List Frame} {meth : Method} {c : Code} {D : va_G} {A : Nat → Prop} {ad0 : Nat → Nat} {n0 : Nat} (hC : XC p s m args c c_M_needs 4 y_M_needs.cls XTs XCL XNW XAL D A) (hr : meth.sig.returnType = some .int) (hlk : meth.locks = false) (hnm : meth.name = y_M_needs.name)   (r0 : Nat) (x1 : Int32) (x2 : Int32) (x3 : Int32) (n : Nat) (h : XH) (rr : Int32) (h' : XH) (hE : D_M_needs_0  r0 x1 x2 x3 h = some (rr, h')) : XW p l e ({ frames := 2, cells := 0, slots := 0, locals := 46 } : Room) s m args below meth c 4 XCL D A ad0 n0 0 0 (MQ below (xQc D XCL n0 ad0 A (some (.int rr)) n h') args s 0 0 A) n h 0 [(0, .ref r0), (1, .int x1), (2, .int x2), (3, .int x3)] [] := by
  unfold D_M_needs_0 at hE
  refine xi_aload_n hC d_M_needs_0 rfl 0 rfl ?_
  refine xi_iconst (v := (0 : Int32)) hC d_M_needs_1 (by decide) ?_
  obtain ⟨h1, hE2, hE⟩ := xb1_inv hE
  refine xi_put (C := R_M) (T := T_M) (N := 19) (ci := 4) (k := 0) hC ty_M rfl iws_M tok_M nok_M (by decide) xt_219 (by decide) rfl (fun _ => rfl) (fun _ => rfl) hE2 d_M_needs_2 ?_
  refine xi_aload_n hC d_M_needs_5 rfl 0 rfl ?_
  refine xi_iload_n hC d_M_needs_6 rfl 1 rfl ?_
  obtain ⟨hI5, hE⟩ := xchk_inv hE
  obtain ⟨v3, hE4, hE⟩ := xb1_inv hE
  refine xi_callV (as := [.int x1]) (st := []) (C := R_M) (T := T_M) (N := 19) hC (x_M_isRunnable hE4) rfl (by decide) hI5 xt_226 xt_227 xt_228 xt_218 xt_225 ⟨by decide, by decide, (by decide +kernel : (parseMethodDescriptor y_M_isRunnable.desc).map (fun d => d.parameters.length) = some 1)⟩ rfl rfl ⟨by decide, by decide⟩ ⟨by decide, by decide⟩ (Nat.le_of_ble_eq_true rfl) rfl d_M_needs_7 ?_
  refine xi_stk (st' := [.int v3]) rfl ?_
  refine xi_if_eq (tgt := 21) hC d_M_needs_10 (by decide) (fun hz6 => ?_) (fun hz6 => ?_)
  · rw [if_pos hz6] at hE
    refine xi_locs (lv' := []) [] rfl ?_
    exact s_M_needs_21 hC hr hlk hnm _ _ _ _ hE
  · rw [if_neg hz6] at hE
    refine xi_aload_n hC d_M_needs_13 rfl 0 rfl ?_
    refine xi_iload_n hC d_M_needs_14 rfl 2 rfl ?_
    obtain ⟨hI9, hE⟩ := xchk_inv hE
    obtain ⟨v7, hE8, hE⟩ := xb1_inv hE
    refine xi_callV (as := [.int x2]) (st := []) (C := R_M) (T := T_M) (N := 19) hC (x_M_isRunnable hE8) rfl (by decide) hI9 xt_226 xt_227 xt_228 xt_218 xt_225 ⟨by decide, by decide, (by decide +kernel : (parseMethodDescriptor y_M_isRunnable.desc).map (fun d => d.parameters.length) = some 1)⟩ rfl rfl ⟨by decide, by decide⟩ ⟨by decide, by decide⟩ (Nat.le_of_ble_eq_true rfl) rfl d_M_needs_15 ?_
    refine xi_stk (st' := [.int v7]) rfl ?_
    refine xi_if_ne (tgt := 23) hC d_M_needs_18 (by decide) (fun hz10 => ?_) (fun hz10 => ?_)
    · rw [if_neg hz10] at hE
      refine xi_iload_n hC d_M_needs_23 rfl 3 rfl ?_
      refine xi_if_eq (tgt := 34) hC d_M_needs_24 (by decide) (fun hz11 => ?_) (fun hz11 => ?_)
      · rw [if_pos hz11] at hE
        refine xi_aload_n hC d_M_needs_34 rfl 0 rfl ?_
        refine xi_iload_n hC d_M_needs_35 rfl 1 rfl ?_
        obtain ⟨hI14, hE⟩ := xchk_inv hE
        obtain ⟨h12, hE13, hE⟩ := xb1_inv hE
        refine xi_callV (as := [.int x1]) (st := []) (C := R_M) (T := T_M) (N := 19) hC (x_M_measure hE13) rfl (by decide) hI14 xt_230 xt_231 xt_232 xt_218 xt_229 ⟨by decide, by decide, (by decide +kernel : (parseMethodDescriptor y_M_measure.desc).map (fun d => d.parameters.length) = some 1)⟩ rfl rfl ⟨by decide, by decide⟩ ⟨by decide, by decide⟩ (Nat.le_of_ble_eq_true rfl) rfl d_M_needs_36 ?_
        refine xi_stk (st' := []) rfl ?_
        refine xi_aload_n hC d_M_needs_39 rfl 0 rfl ?_
        obtain ⟨q16, hE15, hE⟩ := xb1_inv hE
        refine xi_get (C := R_M) (T := T_M) (N := 19) (ci := 4) (k := 10) hC rfl iws_M (by decide) xt_207 (by decide) (xgR_inv hE15) d_M_needs_40 ?_
        refine xi_iload_n hC d_M_needs_43 rfl 2 rfl ?_
        obtain ⟨v17, hE18, hE⟩ := xb1_inv hE
        refine xi_iald hC hE18 d_M_needs_44 ?_
        refine xi_bipush (v := (99 : Int32)) hC d_M_needs_45 (by decide) ?_
        refine xi_icmp_ge (tgt := 57) hC d_M_needs_47 (by decide) (fun hz19 => ?_) (fun hz19 => ?_)
        · rw [if_pos hz19] at hE
          refine xi_aload_n hC d_M_needs_57 rfl 0 rfl ?_
          refine xi_iconst (v := (0 : Int32)) hC d_M_needs_58 (by decide) ?_
          obtain ⟨h20, hE21, hE⟩ := xb1_inv hE
          refine xi_put (C := R_M) (T := T_M) (N := 19) (ci := 4) (k := 11) hC ty_M rfl iws_M tok_M nok_M (by decide) xt_223 (by decide) rfl (fun _ => rfl) (fun _ => rfl) hE21 d_M_needs_59 ?_
          refine xi_aload_n hC d_M_needs_62 rfl 0 rfl ?_
          obtain ⟨q23, hE22, hE⟩ := xb1_inv hE
          refine xi_get (C := R_M) (T := T_M) (N := 19) (ci := 4) (k := 5) hC rfl iws_M (by decide) xt_203 (by decide) (xgR_inv hE22) d_M_needs_63 ?_
          refine xi_iload_n hC d_M_needs_66 rfl 2 rfl ?_
          refine xi_dup2 hC d_M_needs_67 rfl rfl ?_
          obtain ⟨v24, hE25, hE⟩ := xb1_inv hE
          refine xi_iald hC hE25 d_M_needs_68 ?_
          refine xi_iconst (v := (1 : Int32)) hC d_M_needs_69 (by decide) ?_
          refine xi_iload_n hC d_M_needs_70 rfl 1 rfl ?_
          refine xi_ishl hC d_M_needs_71 ?_
          refine xi_ior hC d_M_needs_72 ?_
          obtain ⟨h26, hE27, hE⟩ := xb1_inv hE
          refine xi_iast hC hE27 d_M_needs_73 ?_
          refine xi_iconst (v := (1 : Int32)) hC d_M_needs_74 (by decide) ?_
          cases hE
          exact xi_iret hC hr hlk d_M_needs_75
        · rw [if_neg hz19] at hE
          refine xi_aload_n hC d_M_needs_50 rfl 0 rfl ?_
          refine xi_iload_n hC d_M_needs_51 rfl 2 rfl ?_
          obtain ⟨hI30, hE⟩ := xchk_inv hE
          obtain ⟨h28, hE29, hE⟩ := xb1_inv hE
          refine xi_callV (as := [.int x2]) (st := []) (C := R_M) (T := T_M) (N := 19) hC (x_M_tellRing hE29) rfl (by decide) hI30 xt_234 xt_235 xt_236 xt_218 xt_233 ⟨by decide, by decide, (by decide +kernel : (parseMethodDescriptor y_M_tellRing.desc).map (fun d => d.parameters.length) = some 1)⟩ rfl rfl ⟨by decide, by decide⟩ ⟨by decide, by decide⟩ (Nat.le_of_ble_eq_true rfl) rfl d_M_needs_52 ?_
          refine xi_stk (st' := []) rfl ?_
          refine xi_iconst (v := (0 : Int32)) hC d_M_needs_55 (by decide) ?_
          cases hE
          exact xi_iret hC hr hlk d_M_needs_56
      · rw [if_neg hz11] at hE
        refine xi_aload_n hC d_M_needs_27 rfl 0 rfl ?_
        refine xi_iconst (v := (0 : Int32)) hC d_M_needs_28 (by decide) ?_
        obtain ⟨h31, hE32, hE⟩ := xb1_inv hE
        refine xi_put (C := R_M) (T := T_M) (N := 19) (ci := 4) (k := 11) hC ty_M rfl iws_M tok_M nok_M (by decide) xt_223 (by decide) rfl (fun _ => rfl) (fun _ => rfl) hE32 d_M_needs_29 ?_
        refine xi_iconst (v := (1 : Int32)) hC d_M_needs_32 (by decide) ?_
        cases hE
        exact xi_iret hC hr hlk d_M_needs_33
    · rw [if_pos hz10] at hE
      refine xi_locs (lv' := []) [] rfl ?_
      exact s_M_needs_21 hC hr hlk hnm _ _ _ _ hE
set_option maxRecDepth 100000 in
theorem x_M_needs {l : Launch} {D : va_G} {r0 : Nat} {x1 : Int32} {x2 : Int32} {x3 : Int32} {n : Nat} {h : XH} {rr : Int32} {h' : XH} (hE : X_M_needs r0 x1 x2 x3 h = some (rr, h')) : XMet l y_M_needs c_M_needs 4 (some .int) XTs XCL XNW XAL D ({ frames := 2, cells := 0, slots := 0, locals := 46 } : Room) 0 0 [.ref r0, .int x1, .int x2, .int x3] n h (some (.int rr)) n h' := by
  refine XMet.mk (by decide) xNW_good xTs_good (Nat.le_of_ble_eq_true rfl) ?_
  intro p e s m args below meth c A ad0 hC hr hlk hnm
  refine xi_locs (lv' := [(0, .ref r0), (1, .int x1), (2, .int x2), (3, .int x3)]) [0, 1, 2, 3] rfl ?_
  exact s_M_needs_0 hC hr hlk hnm _ _ _ _ n h _ _ hE

set_option maxRecDepth 100000 in
set_option maxHeartbeats 4000000 in
theorem s_M_ring_27 {p : Program} {l : Launch} {e : Env} {s : State} {m : MethodId} {args : Array Value} {below : List Frame} {meth : Method} {c : Code} {D : va_G} {A : Nat → Prop} {ad0 : Nat → Nat} {n0 : Nat} (hC : XC p s m args c c_M_ring 2 y_M_ring.cls XTs XCL XNW XAL D A) (hr : meth.sig.returnType = some .int) (hlk : meth.locks = false) (hnm : meth.name = y_M_ring.name)   (s0 : Int32) (n : Nat) (h : XH) (rr : Int32) (h' : XH) (hE : D_M_ring_27  s0 h = some (rr, h')) : XW p l e ({ frames := 0, cells := 0, slots := 0, locals := 0 } : Room) s m args below meth c 2 XCL D A ad0 n0 0 0 (MQ below (xQc D XCL n0 ad0 A (some (.int rr)) n h') args s 0 0 A) n h 27 [] [.int s0] := by
  unfold D_M_ring_27 at hE
  cases hE
  exact xi_iret hC hr hlk d_M_ring_27
set_option maxRecDepth 100000 in
set_option maxHeartbeats 4000000 in
theorem s_M_ring_26 {p : Program} {l : Launch} {e : Env} {s : State} {m : MethodId} {args : Array Value} {below : List Frame} {meth : Method} {c : Code} {D : va_G} {A : Nat → Prop} {ad0 : Nat → Nat} {n0 : Nat} (hC : XC p s m args c c_M_ring 2 y_M_ring.cls XTs XCL XNW XAL D A) (hr : meth.sig.returnType = some .int) (hlk : meth.locks = false) (hnm : meth.name = y_M_ring.name)    (n : Nat) (h : XH) (rr : Int32) (h' : XH) (hE : D_M_ring_26   h = some (rr, h')) : XW p l e ({ frames := 0, cells := 0, slots := 0, locals := 0 } : Room) s m args below meth c 2 XCL D A ad0 n0 0 0 (MQ below (xQc D XCL n0 ad0 A (some (.int rr)) n h') args s 0 0 A) n h 26 [] [] := by
  unfold D_M_ring_26 at hE
  refine xi_iconst (v := (0 : Int32)) hC d_M_ring_26 (by decide) ?_
  refine xi_locs (lv' := []) [] rfl ?_
  exact s_M_ring_27 hC hr hlk hnm _ _ _ _ _ hE
set_option maxRecDepth 100000 in
set_option maxHeartbeats 4000000 in
theorem s_M_ring_0 {p : Program} {l : Launch} {e : Env} {s : State} {m : MethodId} {args : Array Value} {below : List Frame} {meth : Method} {c : Code} {D : va_G} {A : Nat → Prop} {ad0 : Nat → Nat} {n0 : Nat} (hC : XC p s m args c c_M_ring 2 y_M_ring.cls XTs XCL XNW XAL D A) (hr : meth.sig.returnType = some .int) (hlk : meth.locks = false) (hnm : meth.name = y_M_ring.name)   (r0 : Nat) (x1 : Int32) (n : Nat) (h : XH) (rr : Int32) (h' : XH) (hE : D_M_ring_0  r0 x1 h = some (rr, h')) : XW p l e ({ frames := 0, cells := 0, slots := 0, locals := 0 } : Room) s m args below meth c 2 XCL D A ad0 n0 0 0 (MQ below (xQc D XCL n0 ad0 A (some (.int rr)) n h') args s 0 0 A) n h 0 [(0, .ref r0), (1, .int x1)] [] := by
  unfold D_M_ring_0 at hE
  refine xi_aload_n hC d_M_ring_0 rfl 0 rfl ?_
  refine xi_iconst (v := (0 : Int32)) hC d_M_ring_1 (by decide) ?_
  obtain ⟨h1, hE2, hE⟩ := xb1_inv hE
  refine xi_put (C := R_M) (T := T_M) (N := 19) (ci := 4) (k := 0) hC ty_M rfl iws_M tok_M nok_M (by decide) xt_219 (by decide) rfl (fun _ => rfl) (fun _ => rfl) hE2 d_M_ring_2 ?_
  refine xi_iload_n hC d_M_ring_5 rfl 1 rfl ?_
  refine xi_if_lt (tgt := 26) hC d_M_ring_6 (by decide) (fun hz3 => ?_) (fun hz3 => ?_)
  · rw [if_pos hz3] at hE
    refine xi_locs (lv' := []) [] rfl ?_
    exact s_M_ring_26 hC hr hlk hnm _ _ _ _ hE
  · rw [if_neg hz3] at hE
    refine xi_iload_n hC d_M_ring_9 rfl 1 rfl ?_
    refine xi_aload_n hC d_M_ring_10 rfl 0 rfl ?_
    obtain ⟨v5, hE4, hE⟩ := xb1_inv hE
    refine xi_get (C := R_M) (T := T_M) (N := 19) (ci := 4) (k := 8) hC rfl iws_M (by decide) xt_224 (by decide) (xgI_inv hE4) d_M_ring_11 ?_
    refine xi_icmp_ge (tgt := 26) hC d_M_ring_14 (by decide) (fun hz6 => ?_) (fun hz6 => ?_)
    · rw [if_pos hz6] at hE
      refine xi_locs (lv' := []) [] rfl ?_
      exact s_M_ring_26 hC hr hlk hnm _ _ _ _ hE
    · rw [if_neg hz6] at hE
      refine xi_aload_n hC d_M_ring_17 rfl 0 rfl ?_
      obtain ⟨q8, hE7, hE⟩ := xb1_inv hE
      refine xi_get (C := R_M) (T := T_M) (N := 19) (ci := 4) (k := 9) hC rfl iws_M (by decide) xt_206 (by decide) (xgR_inv hE7) d_M_ring_18 ?_
      refine xi_iload_n hC d_M_ring_21 rfl 1 rfl ?_
      obtain ⟨v9, hE10, hE⟩ := xb1_inv hE
      refine xi_iald hC hE10 d_M_ring_22 ?_
      refine xi_goto (tgt := 27) hC d_M_ring_23 (by decide) ?_
      refine xi_locs (lv' := []) [] rfl ?_
      exact s_M_ring_27 hC hr hlk hnm _ _ _ _ _ hE
set_option maxRecDepth 100000 in
theorem x_M_ring {l : Launch} {D : va_G} {r0 : Nat} {x1 : Int32} {n : Nat} {h : XH} {rr : Int32} {h' : XH} (hE : X_M_ring r0 x1 h = some (rr, h')) : XMet l y_M_ring c_M_ring 2 (some .int) XTs XCL XNW XAL D ({ frames := 0, cells := 0, slots := 0, locals := 0 } : Room) 0 0 [.ref r0, .int x1] n h (some (.int rr)) n h' := by
  refine XMet.mk (by decide) xNW_good xTs_good (Nat.le_of_ble_eq_true rfl) ?_
  intro p e s m args below meth c A ad0 hC hr hlk hnm
  refine xi_locs (lv' := [(0, .ref r0), (1, .int x1)]) [0, 1] rfl ?_
  exact s_M_ring_0 hC hr hlk hnm _ _ n h _ _ hE

set_option maxRecDepth 100000 in
set_option maxHeartbeats 4000000 in
theorem s_M_area_127 {p : Program} {l : Launch} {e : Env} {s : State} {m : MethodId} {args : Array Value} {below : List Frame} {meth : Method} {c : Code} {D : va_G} {A : Nat → Prop} {ad0 : Nat → Nat} {n0 : Nat} (hC : XC p s m args c c_M_area 7 y_M_area.cls XTs XCL XNW XAL D A) (hr : meth.sig.returnType = some .int) (hlk : meth.locks = false) (hnm : meth.name = y_M_area.name) {k92 : Nat → Int32 → Int32 → Int32 → XH → Option (Int32 × XH)} (n : Nat) (rr : Int32) (h' : XH) (hk92 : ∀ (r0 : Nat) (x4 : Int32) (x5 : Int32) (x6 : Int32) (h1 : XH), k92 r0 x4 x5 x6 h1 = some (rr, h') → XW p l e ({ frames := 2, cells := 0, slots := 0, locals := 46 } : Room) s m args below meth c 7 XCL D A ad0 n0 0 0 (MQ below (xQc D XCL n0 ad0 A (some (.int rr)) n h') args s 0 0 A) n h1 92 [(0, .ref r0), (4, .int x4), (5, .int x5), (6, .int x6)] []) (r0 : Nat) (x4 : Int32) (x6 : Int32) (s0 : Int32) (s1 : Int32) (h : XH)  (hE : D_M_area_127 k92 r0 x4 x6 s0 s1 h = some (rr, h')) : XW p l e ({ frames := 2, cells := 0, slots := 0, locals := 46 } : Room) s m args below meth c 7 XCL D A ad0 n0 0 0 (MQ below (xQc D XCL n0 ad0 A (some (.int rr)) n h') args s 0 0 A) n h 127 [(0, .ref r0), (4, .int x4), (6, .int x6)] [.int s0, .int s1] := by
  unfold D_M_area_127 at hE
  refine xi_iadd hC d_M_area_127 ?_
  refine xi_istore (lv' := [(5, .int (s1 + s0)), (0, .ref r0), (4, .int x4), (6, .int x6)]) hC d_M_area_128 (by decide) rfl ?_
  refine xi_iinc (v := x6 + 1) (lv' := [(6, .int (x6 + 1)), (5, .int (s1 + s0)), (0, .ref r0), (4, .int x4)]) hC d_M_area_130 3 rfl rfl (by decide) rfl ?_
  refine xi_goto (tgt := 92) hC d_M_area_133 (by decide) ?_
  refine xi_locs (lv' := [(0, .ref r0), (4, .int x4), (5, .int (s1 + s0)), (6, .int (x6 + 1))]) [2, 3, 1, 0] rfl ?_
  exact hk92 _ _ _ _ _ hE
set_option maxRecDepth 100000 in
set_option maxHeartbeats 4000000 in
theorem s_M_area_92 {p : Program} {l : Launch} {e : Env} {s : State} {m : MethodId} {args : Array Value} {below : List Frame} {meth : Method} {c : Code} {D : va_G} {A : Nat → Prop} {ad0 : Nat → Nat} {n0 : Nat} (hC : XC p s m args c c_M_area 7 y_M_area.cls XTs XCL XNW XAL D A) (hr : meth.sig.returnType = some .int) (hlk : meth.locks = false) (hnm : meth.name = y_M_area.name)   : ∀ (f : Nat) (r0 : Nat) (x4 : Int32) (x5 : Int32) (x6 : Int32) (n : Nat) (h : XH) (rr : Int32) (h' : XH), D_M_area_92  f r0 x4 x5 x6 h = some (rr, h') → XW p l e ({ frames := 2, cells := 0, slots := 0, locals := 46 } : Room) s m args below meth c 7 XCL D A ad0 n0 0 0 (MQ below (xQc D XCL n0 ad0 A (some (.int rr)) n h') args s 0 0 A) n h 92 [(0, .ref r0), (4, .int x4), (5, .int x5), (6, .int x6)] [] := by
  intro f
  induction f with
  | zero =>
    intro r0 x4 x5 x6 n h rr h' hE
    exact absurd hE (by simp [D_M_area_92])
  | succ fu ih =>
    intro r0 x4 x5 x6 n h rr h' hE
    simp only [D_M_area_92] at hE
    refine xi_iload hC d_M_area_92 3 rfl ?_
    refine xi_bipush (v := (20 : Int32)) hC d_M_area_94 (by decide) ?_
    refine xi_icmp_gt (tgt := 136) hC d_M_area_96 (by decide) (fun hz1 => ?_) (fun hz1 => ?_)
    · rw [if_pos hz1] at hE
      refine xi_iload hC d_M_area_136 2 rfl ?_
      cases hE
      exact xi_iret hC hr hlk d_M_area_138
    · rw [if_neg hz1] at hE
      refine xi_iload hC d_M_area_99 2 rfl ?_
      refine xi_aload_n hC d_M_area_101 rfl 0 rfl ?_
      obtain ⟨q3, hE2, hE⟩ := xb1_inv hE
      refine xi_get (C := R_M) (T := T_M) (N := 19) (ci := 4) (k := 6) hC rfl iws_M (by decide) xt_204 (by decide) (xgR_inv hE2) d_M_area_102 ?_
      refine xi_iload hC d_M_area_105 3 rfl ?_
      obtain ⟨v4, hE5, hE⟩ := xb1_inv hE
      refine xi_iald hC hE5 d_M_area_107 ?_
      refine xi_aload_n hC d_M_area_108 rfl 0 rfl ?_
      obtain ⟨q7, hE6, hE⟩ := xb1_inv hE
      refine xi_get (C := R_M) (T := T_M) (N := 19) (ci := 4) (k := 7) hC rfl iws_M (by decide) xt_205 (by decide) (xgR_inv hE6) d_M_area_109 ?_
      refine xi_iload hC d_M_area_112 3 rfl ?_
      obtain ⟨v8, hE9, hE⟩ := xb1_inv hE
      refine xi_iald hC hE9 d_M_area_114 ?_
      refine xi_ior hC d_M_area_115 ?_
      refine xi_iload hC d_M_area_116 1 rfl ?_
      refine xi_iand hC d_M_area_118 ?_
      refine xi_if_eq (tgt := 126) hC d_M_area_119 (by decide) (fun hz10 => ?_) (fun hz10 => ?_)
      · rw [if_pos hz10] at hE
        refine xi_iconst (v := (0 : Int32)) hC d_M_area_126 (by decide) ?_
        refine xi_locs (lv' := [(0, .ref r0), (4, .int x4), (6, .int x6)]) [0, 1, 3] rfl ?_
        exact s_M_area_127 hC hr hlk hnm _ _ _ (fun y0 y1 y2 y3 h1 z => ih y0 y1 y2 y3 _ h1 _ _ z) _ _ _ _ _ _ hE
      · rw [if_neg hz10] at hE
        refine xi_iconst (v := (1 : Int32)) hC d_M_area_122 (by decide) ?_
        refine xi_goto (tgt := 127) hC d_M_area_123 (by decide) ?_
        refine xi_locs (lv' := [(0, .ref r0), (4, .int x4), (6, .int x6)]) [0, 1, 3] rfl ?_
        exact s_M_area_127 hC hr hlk hnm _ _ _ (fun y0 y1 y2 y3 h1 z => ih y0 y1 y2 y3 _ h1 _ _ z) _ _ _ _ _ _ hE
set_option maxRecDepth 100000 in
set_option maxHeartbeats 4000000 in
theorem s_M_area_86 {p : Program} {l : Launch} {e : Env} {s : State} {m : MethodId} {args : Array Value} {below : List Frame} {meth : Method} {c : Code} {D : va_G} {A : Nat → Prop} {ad0 : Nat → Nat} {n0 : Nat} (hC : XC p s m args c c_M_area 7 y_M_area.cls XTs XCL XNW XAL D A) (hr : meth.sig.returnType = some .int) (hlk : meth.locks = false) (hnm : meth.name = y_M_area.name)   (r0 : Nat) (x4 : Int32) (n : Nat) (h : XH) (rr : Int32) (h' : XH) (hE : D_M_area_86  r0 x4 h = some (rr, h')) : XW p l e ({ frames := 2, cells := 0, slots := 0, locals := 46 } : Room) s m args below meth c 7 XCL D A ad0 n0 0 0 (MQ below (xQc D XCL n0 ad0 A (some (.int rr)) n h') args s 0 0 A) n h 86 [(0, .ref r0), (4, .int x4)] [] := by
  unfold D_M_area_86 at hE
  refine xi_iconst (v := (0 : Int32)) hC d_M_area_86 (by decide) ?_
  refine xi_istore (lv' := [(5, .int (0 : Int32)), (0, .ref r0), (4, .int x4)]) hC d_M_area_87 (by decide) rfl ?_
  refine xi_iconst (v := (1 : Int32)) hC d_M_area_89 (by decide) ?_
  refine xi_istore (lv' := [(6, .int (1 : Int32)), (5, .int (0 : Int32)), (0, .ref r0), (4, .int x4)]) hC d_M_area_90 (by decide) rfl ?_
  refine xi_locs (lv' := [(0, .ref r0), (4, .int x4), (5, .int (0 : Int32)), (6, .int (1 : Int32))]) [2, 3, 1, 0] rfl ?_
  exact s_M_area_92 hC hr hlk hnm 5000 _ _ _ _ _ _ _ _ hE
set_option maxRecDepth 100000 in
set_option maxHeartbeats 4000000 in
theorem s_M_area_31 {p : Program} {l : Launch} {e : Env} {s : State} {m : MethodId} {args : Array Value} {below : List Frame} {meth : Method} {c : Code} {D : va_G} {A : Nat → Prop} {ad0 : Nat → Nat} {n0 : Nat} (hC : XC p s m args c c_M_area 7 y_M_area.cls XTs XCL XNW XAL D A) (hr : meth.sig.returnType = some .int) (hlk : meth.locks = false) (hnm : meth.name = y_M_area.name)   (r0 : Nat) (x1 : Int32) (x2 : Int32) (s0 : Int32) (n : Nat) (h : XH) (rr : Int32) (h' : XH) (hE : D_M_area_31  r0 x1 x2 s0 h = some (rr, h')) : XW p l e ({ frames := 2, cells := 0, slots := 0, locals := 46 } : Room) s m args below meth c 7 XCL D A ad0 n0 0 0 (MQ below (xQc D XCL n0 ad0 A (some (.int rr)) n h') args s 0 0 A) n h 31 [(0, .ref r0), (1, .int x1), (2, .int x2)] [.int s0] := by
  unfold D_M_area_31 at hE
  refine xi_istore_n (lv' := [(3, .int s0), (0, .ref r0), (1, .int x1), (2, .int x2)]) hC d_M_area_31 rfl (by decide) rfl ?_
  refine xi_iload_n hC d_M_area_32 rfl 0 rfl ?_
  refine xi_i2l hC d_M_area_33 ?_
  refine xi_lconst (v := (1 : Int64)) hC d_M_area_34 (by decide) ?_
  refine xi_ldc2 (v := (20 : Int64)) hC d_M_area_35 xt_237 ?_
  obtain ⟨v1, hE2, hE⟩ := xb1_inv hE
  refine xi_callS (as := [.long (s0.toInt64), .long (1 : Int64), .long (20 : Int64)]) (st := []) hC (x_M_isIn hE2) xt_216 xt_217 xt_218 xt_215 ⟨by decide, by decide, (by decide +kernel : (parseMethodDescriptor y_M_isIn.desc).map (fun d => d.parameters.length) = some 3)⟩ rfl rfl ⟨by decide, by decide⟩ ⟨by decide, by decide⟩ (Nat.le_of_ble_eq_true rfl) rfl d_M_area_38 ?_
  refine xi_stk (st' := [.int v1]) rfl ?_
  refine xi_if_ne (tgt := 47) hC d_M_area_41 (by decide) (fun hz3 => ?_) (fun hz3 => ?_)
  · rw [if_neg hz3] at hE
    refine xi_iconst (v := (1 : Int32)) hC d_M_area_47 (by decide) ?_
    refine xi_iload_n hC d_M_area_48 rfl 2 rfl ?_
    refine xi_ishl hC d_M_area_49 ?_
    refine xi_istore (lv' := [(4, .int ((1 : Int32) <<< (x1 &&& 31))), (3, .int s0), (0, .ref r0), (1, .int x1), (2, .int x2)]) hC d_M_area_50 (by decide) rfl ?_
    refine xi_aload_n hC d_M_area_52 rfl 2 rfl ?_
    refine xi_iconst (v := (0 : Int32)) hC d_M_area_53 (by decide) ?_
    obtain ⟨h4, hE5, hE⟩ := xb1_inv hE
    refine xi_put (C := R_M) (T := T_M) (N := 19) (ci := 4) (k := 11) hC ty_M rfl iws_M tok_M nok_M (by decide) xt_223 (by decide) rfl (fun _ => rfl) (fun _ => rfl) hE5 d_M_area_54 ?_
    refine xi_iload_n hC d_M_area_57 rfl 4 rfl ?_
    refine xi_if_le (tgt := 75) hC d_M_area_58 (by decide) (fun hz6 => ?_) (fun hz6 => ?_)
    · rw [if_pos hz6] at hE
      refine xi_aload_n hC d_M_area_75 rfl 2 rfl ?_
      obtain ⟨q8, hE7, hE⟩ := xb1_inv hE
      refine xi_get (C := R_M) (T := T_M) (N := 19) (ci := 4) (k := 7) hC rfl iws_M (by decide) xt_205 (by decide) (xgR_inv hE7) d_M_area_76 ?_
      refine xi_iload_n hC d_M_area_79 rfl 1 rfl ?_
      refine xi_dup2 hC d_M_area_80 rfl rfl ?_
      obtain ⟨v9, hE10, hE⟩ := xb1_inv hE
      refine xi_iald hC hE10 d_M_area_81 ?_
      refine xi_iload hC d_M_area_82 0 rfl ?_
      refine xi_ior hC d_M_area_84 ?_
      obtain ⟨h11, hE12, hE⟩ := xb1_inv hE
      refine xi_iast hC hE12 d_M_area_85 ?_
      refine xi_locs (lv' := [(0, .ref r0), (4, .int ((1 : Int32) <<< (x1 &&& 31)))]) [2, 0] rfl ?_
      exact s_M_area_86 hC hr hlk hnm _ _ _ _ _ _ hE
    · rw [if_neg hz6] at hE
      refine xi_aload_n hC d_M_area_61 rfl 2 rfl ?_
      obtain ⟨q14, hE13, hE⟩ := xb1_inv hE
      refine xi_get (C := R_M) (T := T_M) (N := 19) (ci := 4) (k := 6) hC rfl iws_M (by decide) xt_204 (by decide) (xgR_inv hE13) d_M_area_62 ?_
      refine xi_iload_n hC d_M_area_65 rfl 1 rfl ?_
      refine xi_dup2 hC d_M_area_66 rfl rfl ?_
      obtain ⟨v15, hE16, hE⟩ := xb1_inv hE
      refine xi_iald hC hE16 d_M_area_67 ?_
      refine xi_iload hC d_M_area_68 0 rfl ?_
      refine xi_ior hC d_M_area_70 ?_
      obtain ⟨h17, hE18, hE⟩ := xb1_inv hE
      refine xi_iast hC hE18 d_M_area_71 ?_
      refine xi_goto (tgt := 86) hC d_M_area_72 (by decide) ?_
      refine xi_locs (lv' := [(0, .ref r0), (4, .int ((1 : Int32) <<< (x1 &&& 31)))]) [2, 0] rfl ?_
      exact s_M_area_86 hC hr hlk hnm _ _ _ _ _ _ hE
  · rw [if_pos hz3] at hE
    refine xi_bipush (v := (-2 : Int32)) hC d_M_area_44 (by decide) ?_
    cases hE
    exact xi_iret hC hr hlk d_M_area_46
set_option maxRecDepth 100000 in
set_option maxHeartbeats 4000000 in
theorem s_M_area_30 {p : Program} {l : Launch} {e : Env} {s : State} {m : MethodId} {args : Array Value} {below : List Frame} {meth : Method} {c : Code} {D : va_G} {A : Nat → Prop} {ad0 : Nat → Nat} {n0 : Nat} (hC : XC p s m args c c_M_area 7 y_M_area.cls XTs XCL XNW XAL D A) (hr : meth.sig.returnType = some .int) (hlk : meth.locks = false) (hnm : meth.name = y_M_area.name)   (r0 : Nat) (x1 : Int32) (x2 : Int32) (n : Nat) (h : XH) (rr : Int32) (h' : XH) (hE : D_M_area_30  r0 x1 x2 h = some (rr, h')) : XW p l e ({ frames := 2, cells := 0, slots := 0, locals := 46 } : Room) s m args below meth c 7 XCL D A ad0 n0 0 0 (MQ below (xQc D XCL n0 ad0 A (some (.int rr)) n h') args s 0 0 A) n h 30 [(0, .ref r0), (1, .int x1), (2, .int x2)] [] := by
  unfold D_M_area_30 at hE
  refine xi_iload_n hC d_M_area_30 rfl 2 rfl ?_
  refine xi_locs (lv' := [(0, .ref r0), (1, .int x1), (2, .int x2)]) [0, 1, 2] rfl ?_
  exact s_M_area_31 hC hr hlk hnm _ _ _ _ _ _ _ _ hE
set_option maxRecDepth 100000 in
set_option maxHeartbeats 4000000 in
theorem s_M_area_0 {p : Program} {l : Launch} {e : Env} {s : State} {m : MethodId} {args : Array Value} {below : List Frame} {meth : Method} {c : Code} {D : va_G} {A : Nat → Prop} {ad0 : Nat → Nat} {n0 : Nat} (hC : XC p s m args c c_M_area 7 y_M_area.cls XTs XCL XNW XAL D A) (hr : meth.sig.returnType = some .int) (hlk : meth.locks = false) (hnm : meth.name = y_M_area.name)   (r0 : Nat) (x1 : Int32) (x2 : Int32) (n : Nat) (h : XH) (rr : Int32) (h' : XH) (hE : D_M_area_0  r0 x1 x2 h = some (rr, h')) : XW p l e ({ frames := 2, cells := 0, slots := 0, locals := 46 } : Room) s m args below meth c 7 XCL D A ad0 n0 0 0 (MQ below (xQc D XCL n0 ad0 A (some (.int rr)) n h') args s 0 0 A) n h 0 [(0, .ref r0), (1, .int x1), (2, .int x2)] [] := by
  unfold D_M_area_0 at hE
  refine xi_aload_n hC d_M_area_0 rfl 0 rfl ?_
  refine xi_iconst (v := (0 : Int32)) hC d_M_area_1 (by decide) ?_
  obtain ⟨h1, hE2, hE⟩ := xb1_inv hE
  refine xi_put (C := R_M) (T := T_M) (N := 19) (ci := 4) (k := 0) hC ty_M rfl iws_M tok_M nok_M (by decide) xt_219 (by decide) rfl (fun _ => rfl) (fun _ => rfl) hE2 d_M_area_2 ?_
  refine xi_aload_n hC d_M_area_5 rfl 0 rfl ?_
  refine xi_iload_n hC d_M_area_6 rfl 1 rfl ?_
  obtain ⟨hI5, hE⟩ := xchk_inv hE
  obtain ⟨v3, hE4, hE⟩ := xb1_inv hE
  refine xi_callV (as := [.int x1]) (st := []) (C := R_M) (T := T_M) (N := 19) hC (x_M_isRunnable hE4) rfl (by decide) hI5 xt_226 xt_227 xt_228 xt_218 xt_225 ⟨by decide, by decide, (by decide +kernel : (parseMethodDescriptor y_M_isRunnable.desc).map (fun d => d.parameters.length) = some 1)⟩ rfl rfl ⟨by decide, by decide⟩ ⟨by decide, by decide⟩ (Nat.le_of_ble_eq_true rfl) rfl d_M_area_7 ?_
  refine xi_stk (st' := [.int v3]) rfl ?_
  refine xi_if_ne (tgt := 15) hC d_M_area_10 (by decide) (fun hz6 => ?_) (fun hz6 => ?_)
  · rw [if_neg hz6] at hE
    refine xi_iload_n hC d_M_area_15 rfl 2 rfl ?_
    refine xi_if_ge (tgt := 30) hC d_M_area_16 (by decide) (fun hz7 => ?_) (fun hz7 => ?_)
    · rw [if_pos hz7] at hE
      refine xi_locs (lv' := [(0, .ref r0), (1, .int x1), (2, .int x2)]) [0, 1, 2] rfl ?_
      exact s_M_area_30 hC hr hlk hnm _ _ _ _ _ _ _ hE
    · rw [if_neg hz7] at hE
      refine xi_iload_n hC d_M_area_19 rfl 2 rfl ?_
      refine xi_bipush (v := (-20 : Int32)) hC d_M_area_20 (by decide) ?_
      refine xi_icmp_lt (tgt := 30) hC d_M_area_22 (by decide) (fun hz8 => ?_) (fun hz8 => ?_)
      · rw [if_pos hz8] at hE
        refine xi_locs (lv' := [(0, .ref r0), (1, .int x1), (2, .int x2)]) [0, 1, 2] rfl ?_
        exact s_M_area_30 hC hr hlk hnm _ _ _ _ _ _ _ hE
      · rw [if_neg hz8] at hE
        refine xi_iload_n hC d_M_area_25 rfl 2 rfl ?_
        refine xi_ineg hC d_M_area_26 ?_
        refine xi_goto (tgt := 31) hC d_M_area_27 (by decide) ?_
        refine xi_locs (lv' := [(0, .ref r0), (1, .int x1), (2, .int x2)]) [0, 1, 2] rfl ?_
        exact s_M_area_31 hC hr hlk hnm _ _ _ _ _ _ _ _ hE
  · rw [if_pos hz6] at hE
    refine xi_iconst (v := (-1 : Int32)) hC d_M_area_13 (by decide) ?_
    cases hE
    exact xi_iret hC hr hlk d_M_area_14
set_option maxRecDepth 100000 in
theorem x_M_area {l : Launch} {D : va_G} {r0 : Nat} {x1 : Int32} {x2 : Int32} {n : Nat} {h : XH} {rr : Int32} {h' : XH} (hE : X_M_area r0 x1 x2 h = some (rr, h')) : XMet l y_M_area c_M_area 7 (some .int) XTs XCL XNW XAL D ({ frames := 2, cells := 0, slots := 0, locals := 46 } : Room) 0 0 [.ref r0, .int x1, .int x2] n h (some (.int rr)) n h' := by
  refine XMet.mk (by decide) xNW_good xTs_good (Nat.le_of_ble_eq_true rfl) ?_
  intro p e s m args below meth c A ad0 hC hr hlk hnm
  refine xi_locs (lv' := [(0, .ref r0), (1, .int x1), (2, .int x2)]) [0, 1, 2] rfl ?_
  exact s_M_area_0 hC hr hlk hnm _ _ _ n h _ _ hE

set_option maxRecDepth 100000 in
set_option maxHeartbeats 4000000 in
theorem s_M_behind_51 {p : Program} {l : Launch} {e : Env} {s : State} {m : MethodId} {args : Array Value} {below : List Frame} {meth : Method} {c : Code} {D : va_G} {A : Nat → Prop} {ad0 : Nat → Nat} {n0 : Nat} (hC : XC p s m args c c_M_behind 5 y_M_behind.cls XTs XCL XNW XAL D A) (hr : meth.sig.returnType = some .int) (hlk : meth.locks = false) (hnm : meth.name = y_M_behind.name) {k9 : Nat → Int32 → Int32 → XH → Option (Int32)} {k20 : Nat → Int32 → Int32 → Int32 → XH → Option (Int32)} (n : Nat) (h : XH) (rr : Int32)  (hk9 : ∀ (r0 : Nat) (x2 : Int32) (x3 : Int32), k9 r0 x2 x3 h = some rr → XW p l e ({ frames := 0, cells := 0, slots := 0, locals := 0 } : Room) s m args below meth c 5 XCL D A ad0 n0 0 0 (MQ below (xQc D XCL n0 ad0 A (some (.int rr)) n h) args s 0 0 A) n h 9 [(0, .ref r0), (2, .int x2), (3, .int x3)] []) (hk20 : ∀ (r0 : Nat) (x2 : Int32) (x3 : Int32) (x4 : Int32), k20 r0 x2 x3 x4 h = some rr → XW p l e ({ frames := 0, cells := 0, slots := 0, locals := 0 } : Room) s m args below meth c 5 XCL D A ad0 n0 0 0 (MQ below (xQc D XCL n0 ad0 A (some (.int rr)) n h) args s 0 0 A) n h 20 [(0, .ref r0), (2, .int x2), (3, .int x3), (4, .int x4)] []) (r0 : Nat) (x3 : Int32) (x4 : Int32) (s0 : Int32) (s1 : Int32)  (hE : D_M_behind_51 k9 k20 r0 x3 x4 s0 s1 h = some rr) : XW p l e ({ frames := 0, cells := 0, slots := 0, locals := 0 } : Room) s m args below meth c 5 XCL D A ad0 n0 0 0 (MQ below (xQc D XCL n0 ad0 A (some (.int rr)) n h) args s 0 0 A) n h 51 [(0, .ref r0), (3, .int x3), (4, .int x4)] [.int s0, .int s1] := by
  unfold D_M_behind_51 at hE
  refine xi_ior hC d_M_behind_51 ?_
  refine xi_istore_n (lv' := [(2, .int (s1 ||| s0)), (0, .ref r0), (3, .int x3), (4, .int x4)]) hC d_M_behind_52 rfl (by decide) rfl ?_
  refine xi_iinc (v := x4 + 1) (lv' := [(4, .int (x4 + 1)), (2, .int (s1 ||| s0)), (0, .ref r0), (3, .int x3)]) hC d_M_behind_53 3 rfl rfl (by decide) rfl ?_
  refine xi_goto (tgt := 20) hC d_M_behind_56 (by decide) ?_
  refine xi_locs (lv' := [(0, .ref r0), (2, .int (s1 ||| s0)), (3, .int x3), (4, .int (x4 + 1))]) [2, 1, 3, 0] rfl ?_
  exact hk20 _ _ _ _ hE
set_option maxRecDepth 100000 in
set_option maxHeartbeats 4000000 in
theorem s_M_behind_20 {p : Program} {l : Launch} {e : Env} {s : State} {m : MethodId} {args : Array Value} {below : List Frame} {meth : Method} {c : Code} {D : va_G} {A : Nat → Prop} {ad0 : Nat → Nat} {n0 : Nat} (hC : XC p s m args c c_M_behind 5 y_M_behind.cls XTs XCL XNW XAL D A) (hr : meth.sig.returnType = some .int) (hlk : meth.locks = false) (hnm : meth.name = y_M_behind.name) {k9 : Nat → Int32 → Int32 → XH → Option (Int32)} (n : Nat) (h : XH) (rr : Int32)  (hk9 : ∀ (r0 : Nat) (x2 : Int32) (x3 : Int32), k9 r0 x2 x3 h = some rr → XW p l e ({ frames := 0, cells := 0, slots := 0, locals := 0 } : Room) s m args below meth c 5 XCL D A ad0 n0 0 0 (MQ below (xQc D XCL n0 ad0 A (some (.int rr)) n h) args s 0 0 A) n h 9 [(0, .ref r0), (2, .int x2), (3, .int x3)] []) : ∀ (f : Nat) (r0 : Nat) (x2 : Int32) (x3 : Int32) (x4 : Int32) , D_M_behind_20 k9 f r0 x2 x3 x4 h = some rr → XW p l e ({ frames := 0, cells := 0, slots := 0, locals := 0 } : Room) s m args below meth c 5 XCL D A ad0 n0 0 0 (MQ below (xQc D XCL n0 ad0 A (some (.int rr)) n h) args s 0 0 A) n h 20 [(0, .ref r0), (2, .int x2), (3, .int x3), (4, .int x4)] [] := by
  intro f
  induction f with
  | zero =>
    intro r0 x2 x3 x4  hE
    exact absurd hE (by simp [D_M_behind_20])
  | succ fu ih =>
    intro r0 x2 x3 x4  hE
    simp only [D_M_behind_20] at hE
    refine xi_iload hC d_M_behind_20 3 rfl ?_
    refine xi_aload_n hC d_M_behind_22 rfl 0 rfl ?_
    obtain ⟨v2, hE1, hE⟩ := xb1_inv hE
    refine xi_get (C := R_M) (T := T_M) (N := 19) (ci := 4) (k := 1) hC rfl iws_M (by decide) xt_214 (by decide) (xgI_inv hE1) d_M_behind_23 ?_
    refine xi_icmp_gt (tgt := 59) hC d_M_behind_26 (by decide) (fun hz3 => ?_) (fun hz3 => ?_)
    · rw [if_pos hz3] at hE
      refine xi_iinc (v := x3 + 1) (lv' := [(3, .int (x3 + 1)), (0, .ref r0), (2, .int x2), (4, .int x4)]) hC d_M_behind_59 2 rfl rfl (by decide) rfl ?_
      refine xi_goto (tgt := 9) hC d_M_behind_62 (by decide) ?_
      refine xi_locs (lv' := [(0, .ref r0), (2, .int x2), (3, .int (x3 + 1))]) [1, 2, 0] rfl ?_
      exact hk9 _ _ _ hE
    · rw [if_neg hz3] at hE
      refine xi_iload_n hC d_M_behind_29 rfl 1 rfl ?_
      refine xi_iload_n hC d_M_behind_30 rfl 1 rfl ?_
      refine xi_iload hC d_M_behind_31 3 rfl ?_
      refine xi_ishr hC d_M_behind_33 ?_
      refine xi_iconst (v := (1 : Int32)) hC d_M_behind_34 (by decide) ?_
      refine xi_iand hC d_M_behind_35 ?_
      refine xi_iconst (v := (1 : Int32)) hC d_M_behind_36 (by decide) ?_
      refine xi_icmp_ne (tgt := 50) hC d_M_behind_37 (by decide) (fun hz4 => ?_) (fun hz4 => ?_)
      · rw [if_neg hz4] at hE
        refine xi_iconst (v := (0 : Int32)) hC d_M_behind_50 (by decide) ?_
        refine xi_locs (lv' := [(0, .ref r0), (3, .int x3), (4, .int x4)]) [0, 2, 3] rfl ?_
        exact s_M_behind_51 hC hr hlk hnm _ _ _ hk9 (fun y0 y1 y2 y3 z => ih y0 y1 y2 y3 z) _ _ _ _ _ hE
      · rw [if_pos hz4] at hE
        refine xi_aload_n hC d_M_behind_40 rfl 0 rfl ?_
        obtain ⟨q6, hE5, hE⟩ := xb1_inv hE
        refine xi_get (C := R_M) (T := T_M) (N := 19) (ci := 4) (k := 5) hC rfl iws_M (by decide) xt_203 (by decide) (xgR_inv hE5) d_M_behind_41 ?_
        refine xi_iload hC d_M_behind_44 3 rfl ?_
        obtain ⟨v7, hE8, hE⟩ := xb1_inv hE
        refine xi_iald hC hE8 d_M_behind_46 ?_
        refine xi_goto (tgt := 51) hC d_M_behind_47 (by decide) ?_
        refine xi_locs (lv' := [(0, .ref r0), (3, .int x3), (4, .int x4)]) [0, 2, 3] rfl ?_
        exact s_M_behind_51 hC hr hlk hnm _ _ _ hk9 (fun y0 y1 y2 y3 z => ih y0 y1 y2 y3 z) _ _ _ _ _ hE
set_option maxRecDepth 100000 in
set_option maxHeartbeats 4000000 in
theorem s_M_behind_9 {p : Program} {l : Launch} {e : Env} {s : State} {m : MethodId} {args : Array Value} {below : List Frame} {meth : Method} {c : Code} {D : va_G} {A : Nat → Prop} {ad0 : Nat → Nat} {n0 : Nat} (hC : XC p s m args c c_M_behind 5 y_M_behind.cls XTs XCL XNW XAL D A) (hr : meth.sig.returnType = some .int) (hlk : meth.locks = false) (hnm : meth.name = y_M_behind.name)   : ∀ (f : Nat) (r0 : Nat) (x2 : Int32) (x3 : Int32) (n : Nat) (h : XH) (rr : Int32) , D_M_behind_9  f r0 x2 x3 h = some rr → XW p l e ({ frames := 0, cells := 0, slots := 0, locals := 0 } : Room) s m args below meth c 5 XCL D A ad0 n0 0 0 (MQ below (xQc D XCL n0 ad0 A (some (.int rr)) n h) args s 0 0 A) n h 9 [(0, .ref r0), (2, .int x2), (3, .int x3)] [] := by
  intro f
  induction f with
  | zero =>
    intro r0 x2 x3 n h rr hE
    exact absurd hE (by simp [D_M_behind_9])
  | succ fu ih =>
    intro r0 x2 x3 n h rr hE
    simp only [D_M_behind_9] at hE
    refine xi_iload_n hC d_M_behind_9 rfl 2 rfl ?_
    refine xi_aload_n hC d_M_behind_10 rfl 0 rfl ?_
    obtain ⟨v2, hE1, hE⟩ := xb1_inv hE
    refine xi_get (C := R_M) (T := T_M) (N := 19) (ci := 4) (k := 1) hC rfl iws_M (by decide) xt_214 (by decide) (xgI_inv hE1) d_M_behind_11 ?_
    refine xi_icmp_ge (tgt := 65) hC d_M_behind_14 (by decide) (fun hz3 => ?_) (fun hz3 => ?_)
    · rw [if_pos hz3] at hE
      refine xi_iload_n hC d_M_behind_65 rfl 1 rfl ?_
      cases hE
      exact xi_iret hC hr hlk d_M_behind_66
    · rw [if_neg hz3] at hE
      refine xi_iconst (v := (1 : Int32)) hC d_M_behind_17 (by decide) ?_
      refine xi_istore (lv' := [(4, .int (1 : Int32)), (0, .ref r0), (2, .int x2), (3, .int x3)]) hC d_M_behind_18 (by decide) rfl ?_
      refine xi_locs (lv' := [(0, .ref r0), (2, .int x2), (3, .int x3), (4, .int (1 : Int32))]) [1, 2, 3, 0] rfl ?_
      exact s_M_behind_20 hC hr hlk hnm _ _ _ (fun y0 y1 y2 z => ih y0 y1 y2 _ _ _ z) 5000 _ _ _ _ hE
set_option maxRecDepth 100000 in
set_option maxHeartbeats 4000000 in
theorem s_M_behind_0 {p : Program} {l : Launch} {e : Env} {s : State} {m : MethodId} {args : Array Value} {below : List Frame} {meth : Method} {c : Code} {D : va_G} {A : Nat → Prop} {ad0 : Nat → Nat} {n0 : Nat} (hC : XC p s m args c c_M_behind 5 y_M_behind.cls XTs XCL XNW XAL D A) (hr : meth.sig.returnType = some .int) (hlk : meth.locks = false) (hnm : meth.name = y_M_behind.name)   (r0 : Nat) (x1 : Int32) (n : Nat) (h : XH) (rr : Int32)  (hE : D_M_behind_0  r0 x1 h = some rr) : XW p l e ({ frames := 0, cells := 0, slots := 0, locals := 0 } : Room) s m args below meth c 5 XCL D A ad0 n0 0 0 (MQ below (xQc D XCL n0 ad0 A (some (.int rr)) n h) args s 0 0 A) n h 0 [(0, .ref r0), (1, .int x1)] [] := by
  unfold D_M_behind_0 at hE
  refine xi_aload_n hC d_M_behind_0 rfl 0 rfl ?_
  obtain ⟨q2, hE1, hE⟩ := xb1_inv hE
  refine xi_get (C := R_M) (T := T_M) (N := 19) (ci := 4) (k := 5) hC rfl iws_M (by decide) xt_203 (by decide) (xgR_inv hE1) d_M_behind_1 ?_
  refine xi_iload_n hC d_M_behind_4 rfl 1 rfl ?_
  obtain ⟨v3, hE4, hE⟩ := xb1_inv hE
  refine xi_iald hC hE4 d_M_behind_5 ?_
  refine xi_istore_n (lv' := [(2, .int v3), (0, .ref r0), (1, .int x1)]) hC d_M_behind_6 rfl (by decide) rfl ?_
  refine xi_iconst (v := (0 : Int32)) hC d_M_behind_7 (by decide) ?_
  refine xi_istore_n (lv' := [(3, .int (0 : Int32)), (2, .int v3), (0, .ref r0), (1, .int x1)]) hC d_M_behind_8 rfl (by decide) rfl ?_
  refine xi_locs (lv' := [(0, .ref r0), (2, .int v3), (3, .int (0 : Int32))]) [2, 1, 0] rfl ?_
  exact s_M_behind_9 hC hr hlk hnm 5000 _ _ _ _ _ _ hE
set_option maxRecDepth 100000 in
theorem x_M_behind {l : Launch} {D : va_G} {r0 : Nat} {x1 : Int32} {n : Nat} {h : XH} {rr : Int32}  (hE : X_M_behind r0 x1 h = some rr) : XMet l y_M_behind c_M_behind 5 (some .int) XTs XCL XNW XAL D ({ frames := 0, cells := 0, slots := 0, locals := 0 } : Room) 0 0 [.ref r0, .int x1] n h (some (.int rr)) n h := by
  refine XMet.mk (by decide) xNW_good xTs_good (Nat.le_of_ble_eq_true rfl) ?_
  intro p e s m args below meth c A ad0 hC hr hlk hnm
  refine xi_locs (lv' := [(0, .ref r0), (1, .int x1)]) [0, 1] rfl ?_
  exact s_M_behind_0 hC hr hlk hnm _ _ n h _ hE


set_option maxRecDepth 100000 in
set_option maxHeartbeats 4000000 in
theorem s_U_init_0 {p : Program} {l : Launch} {e : Env} {s : State} {m : MethodId} {args : Array Value} {below : List Frame} {meth : Method} {c : Code} {D : va_G} {A : Nat → Prop} {ad0 : Nat → Nat} {n0 : Nat} (hC : XC p s m args c c_U_init 1 y_U_init.cls XTs XCL XNW XAL D A) (hr : meth.sig.returnType = none) (hlk : meth.locks = false) (hnm : meth.name = y_U_init.name)   (r0 : Nat) (n : Nat) (h : XH) (n' : Nat) (h' : XH) (hE : D_U_init_0  r0 n h = some (n', h')) : XW p l e ({ frames := 1, cells := 5, slots := 125, locals := 20 } : Room) s m args below meth c 1 XCL D A ad0 n0 0 0 (MQ below (xQc D XCL n0 ad0 A none n' h') args s 5 125 A) n h 0 [(0, .ref r0)] [] := by
  unfold D_U_init_0 at hE
  refine xi_aload_n hC d_U_init_0 rfl 0 rfl ?_
  refine xi_objInit hC xt_0 xt_1 xt_2 d_U_init_1 (by decide) (by decide) (Nat.le_of_ble_eq_true rfl) ?_
  refine xi_aload_n hC d_U_init_4 rfl 0 rfl ?_
  refine xi_bipush (v := (25 : Int32)) hC d_U_init_5 (by decide) ?_
  obtain ⟨h1, hE2, hE⟩ := xb1_inv hE
  cases hE2
  refine xi_newI (atype := .int) (N := 25) hC rfl xt_3 (by decide) (by decide) (by decide) (by decide) (by decide) d_U_init_7 ?_
  obtain ⟨h3, hE4, hE⟩ := xb1_inv hE
  refine xi_putF (C := R_U) (T := T_U) (N := 6) (ci := 1) (k := 1) hC ty_U rfl iws_U tok_U nok_U (by decide) xt_4 (by decide) rfl hnm rfl (fun _ => rfl) (fun _ => rfl) hE4 d_U_init_9 ?_
  refine xi_aload_n hC d_U_init_12 rfl 0 rfl ?_
  refine xi_bipush (v := (25 : Int32)) hC d_U_init_13 (by decide) ?_
  obtain ⟨h5, hE6, hE⟩ := xb1_inv hE
  cases hE6
  refine xi_newI (atype := .int) (N := 25) hC rfl xt_3 (by decide) (by decide) (by decide) (by decide) (by decide) d_U_init_15 ?_
  obtain ⟨h7, hE8, hE⟩ := xb1_inv hE
  refine xi_putF (C := R_U) (T := T_U) (N := 6) (ci := 1) (k := 2) hC ty_U rfl iws_U tok_U nok_U (by decide) xt_5 (by decide) rfl hnm rfl (fun _ => rfl) (fun _ => rfl) hE8 d_U_init_17 ?_
  refine xi_aload_n hC d_U_init_20 rfl 0 rfl ?_
  refine xi_bipush (v := (25 : Int32)) hC d_U_init_21 (by decide) ?_
  obtain ⟨h9, hE10, hE⟩ := xb1_inv hE
  cases hE10
  refine xi_newI (atype := .int) (N := 25) hC rfl xt_3 (by decide) (by decide) (by decide) (by decide) (by decide) d_U_init_23 ?_
  obtain ⟨h11, hE12, hE⟩ := xb1_inv hE
  refine xi_putF (C := R_U) (T := T_U) (N := 6) (ci := 1) (k := 3) hC ty_U rfl iws_U tok_U nok_U (by decide) xt_6 (by decide) rfl hnm rfl (fun _ => rfl) (fun _ => rfl) hE12 d_U_init_25 ?_
  refine xi_aload_n hC d_U_init_28 rfl 0 rfl ?_
  refine xi_bipush (v := (25 : Int32)) hC d_U_init_29 (by decide) ?_
  obtain ⟨h13, hE14, hE⟩ := xb1_inv hE
  cases hE14
  refine xi_newI (atype := .int) (N := 25) hC rfl xt_3 (by decide) (by decide) (by decide) (by decide) (by decide) d_U_init_31 ?_
  obtain ⟨h15, hE16, hE⟩ := xb1_inv hE
  refine xi_putF (C := R_U) (T := T_U) (N := 6) (ci := 1) (k := 4) hC ty_U rfl iws_U tok_U nok_U (by decide) xt_7 (by decide) rfl hnm rfl (fun _ => rfl) (fun _ => rfl) hE16 d_U_init_33 ?_
  refine xi_aload_n hC d_U_init_36 rfl 0 rfl ?_
  refine xi_bipush (v := (25 : Int32)) hC d_U_init_37 (by decide) ?_
  obtain ⟨h17, hE18, hE⟩ := xb1_inv hE
  cases hE18
  refine xi_newI (atype := .int) (N := 25) hC rfl xt_3 (by decide) (by decide) (by decide) (by decide) (by decide) d_U_init_39 ?_
  obtain ⟨h19, hE20, hE⟩ := xb1_inv hE
  refine xi_putF (C := R_U) (T := T_U) (N := 6) (ci := 1) (k := 5) hC ty_U rfl iws_U tok_U nok_U (by decide) xt_8 (by decide) rfl hnm rfl (fun _ => rfl) (fun _ => rfl) hE20 d_U_init_41 ?_
  cases hE
  exact xi_vret hC hr hlk d_U_init_44
set_option maxRecDepth 100000 in
theorem x_U_init {l : Launch} {D : va_G} {r0 : Nat} {n : Nat} {h : XH} {n' : Nat} {h' : XH} (hE : X_U_init r0 n h = some (n', h')) : XMet l y_U_init c_U_init 1 none XTs XCL XNW XAL D ({ frames := 1, cells := 5, slots := 125, locals := 20 } : Room) 5 125 [.ref r0] n h none n' h' := by
  refine XMet.mk (by decide) xNW_good xTs_good (Nat.le_of_ble_eq_true rfl) ?_
  intro p e s m args below meth c A ad0 hC hr hlk hnm
  refine xi_locs (lv' := [(0, .ref r0)]) [0] rfl ?_
  exact s_U_init_0 hC hr hlk hnm _ n h _ _ hE

set_option maxRecDepth 100000 in
set_option maxHeartbeats 4000000 in
theorem s_G_init_0 {p : Program} {l : Launch} {e : Env} {s : State} {m : MethodId} {args : Array Value} {below : List Frame} {meth : Method} {c : Code} {D : va_G} {A : Nat → Prop} {ad0 : Nat → Nat} {n0 : Nat} (hC : XC p s m args c c_G_init 1 y_G_init.cls XTs XCL XNW XAL D A) (hr : meth.sig.returnType = none) (hlk : meth.locks = false) (hnm : meth.name = y_G_init.name)   (r0 : Nat) (n : Nat) (h : XH) (n' : Nat) (h' : XH) (hE : D_G_init_0  r0 n h = some (n', h')) : XW p l e ({ frames := 1, cells := 4, slots := 98, locals := 20 } : Room) s m args below meth c 1 XCL D A ad0 n0 0 0 (MQ below (xQc D XCL n0 ad0 A none n' h') args s 4 98 A) n h 0 [(0, .ref r0)] [] := by
  unfold D_G_init_0 at hE
  refine xi_aload_n hC d_G_init_0 rfl 0 rfl ?_
  refine xi_objInit hC xt_9 xt_1 xt_2 d_G_init_1 (by decide) (by decide) (Nat.le_of_ble_eq_true rfl) ?_
  refine xi_aload_n hC d_G_init_4 rfl 0 rfl ?_
  refine xi_bipush (v := (25 : Int32)) hC d_G_init_5 (by decide) ?_
  obtain ⟨h1, hE2, hE⟩ := xb1_inv hE
  cases hE2
  refine xi_newI (atype := .int) (N := 25) hC rfl xt_3 (by decide) (by decide) (by decide) (by decide) (by decide) d_G_init_7 ?_
  obtain ⟨h3, hE4, hE⟩ := xb1_inv hE
  refine xi_putF (C := R_G) (T := T_G) (N := 5) (ci := 2) (k := 0) hC ty_G rfl iws_G tok_G nok_G (by decide) xt_10 (by decide) rfl hnm rfl (fun _ => rfl) (fun _ => rfl) hE4 d_G_init_9 ?_
  refine xi_aload_n hC d_G_init_12 rfl 0 rfl ?_
  refine xi_bipush (v := (25 : Int32)) hC d_G_init_13 (by decide) ?_
  obtain ⟨h5, hE6, hE⟩ := xb1_inv hE
  cases hE6
  refine xi_newI (atype := .int) (N := 25) hC rfl xt_3 (by decide) (by decide) (by decide) (by decide) (by decide) d_G_init_15 ?_
  obtain ⟨h7, hE8, hE⟩ := xb1_inv hE
  refine xi_putF (C := R_G) (T := T_G) (N := 5) (ci := 2) (k := 1) hC ty_G rfl iws_G tok_G nok_G (by decide) xt_11 (by decide) rfl hnm rfl (fun _ => rfl) (fun _ => rfl) hE8 d_G_init_17 ?_
  refine xi_aload_n hC d_G_init_20 rfl 0 rfl ?_
  refine xi_bipush (v := (24 : Int32)) hC d_G_init_21 (by decide) ?_
  obtain ⟨h9, hE10, hE⟩ := xb1_inv hE
  cases hE10
  refine xi_newI (atype := .int) (N := 24) hC rfl xt_3 (by decide) (by decide) (by decide) (by decide) (by decide) d_G_init_23 ?_
  obtain ⟨h11, hE12, hE⟩ := xb1_inv hE
  refine xi_putF (C := R_G) (T := T_G) (N := 5) (ci := 2) (k := 2) hC ty_G rfl iws_G tok_G nok_G (by decide) xt_12 (by decide) rfl hnm rfl (fun _ => rfl) (fun _ => rfl) hE12 d_G_init_25 ?_
  refine xi_aload_n hC d_G_init_28 rfl 0 rfl ?_
  refine xi_bipush (v := (24 : Int32)) hC d_G_init_29 (by decide) ?_
  obtain ⟨h13, hE14, hE⟩ := xb1_inv hE
  cases hE14
  refine xi_newI (atype := .int) (N := 24) hC rfl xt_3 (by decide) (by decide) (by decide) (by decide) (by decide) d_G_init_31 ?_
  obtain ⟨h15, hE16, hE⟩ := xb1_inv hE
  refine xi_putF (C := R_G) (T := T_G) (N := 5) (ci := 2) (k := 3) hC ty_G rfl iws_G tok_G nok_G (by decide) xt_13 (by decide) rfl hnm rfl (fun _ => rfl) (fun _ => rfl) hE16 d_G_init_33 ?_
  cases hE
  exact xi_vret hC hr hlk d_G_init_36
set_option maxRecDepth 100000 in
theorem x_G_init {l : Launch} {D : va_G} {r0 : Nat} {n : Nat} {h : XH} {n' : Nat} {h' : XH} (hE : X_G_init r0 n h = some (n', h')) : XMet l y_G_init c_G_init 1 none XTs XCL XNW XAL D ({ frames := 1, cells := 4, slots := 98, locals := 20 } : Room) 4 98 [.ref r0] n h none n' h' := by
  refine XMet.mk (by decide) xNW_good xTs_good (Nat.le_of_ble_eq_true rfl) ?_
  intro p e s m args below meth c A ad0 hC hr hlk hnm
  refine xi_locs (lv' := [(0, .ref r0)]) [0] rfl ?_
  exact s_G_init_0 hC hr hlk hnm _ n h _ _ hE

set_option maxRecDepth 100000 in
set_option maxHeartbeats 4000000 in
theorem s_P_init_0 {p : Program} {l : Launch} {e : Env} {s : State} {m : MethodId} {args : Array Value} {below : List Frame} {meth : Method} {c : Code} {D : va_G} {A : Nat → Prop} {ad0 : Nat → Nat} {n0 : Nat} (hC : XC p s m args c c_P_init 1 y_P_init.cls XTs XCL XNW XAL D A) (hr : meth.sig.returnType = none) (hlk : meth.locks = false) (hnm : meth.name = y_P_init.name)   (r0 : Nat) (n : Nat) (h : XH) (n' : Nat) (h' : XH) (hE : D_P_init_0  r0 n h = some (n', h')) : XW p l e ({ frames := 1, cells := 5, slots := 125, locals := 20 } : Room) s m args below meth c 1 XCL D A ad0 n0 0 0 (MQ below (xQc D XCL n0 ad0 A none n' h') args s 5 125 A) n h 0 [(0, .ref r0)] [] := by
  unfold D_P_init_0 at hE
  refine xi_aload_n hC d_P_init_0 rfl 0 rfl ?_
  refine xi_objInit hC xt_14 xt_1 xt_2 d_P_init_1 (by decide) (by decide) (Nat.le_of_ble_eq_true rfl) ?_
  refine xi_aload_n hC d_P_init_4 rfl 0 rfl ?_
  refine xi_bipush (v := (25 : Int32)) hC d_P_init_5 (by decide) ?_
  obtain ⟨h1, hE2, hE⟩ := xb1_inv hE
  cases hE2
  refine xi_newI (atype := .int) (N := 25) hC rfl xt_3 (by decide) (by decide) (by decide) (by decide) (by decide) d_P_init_7 ?_
  obtain ⟨h3, hE4, hE⟩ := xb1_inv hE
  refine xi_putF (C := R_P) (T := T_P) (N := 6) (ci := 3) (k := 1) hC ty_P rfl iws_P tok_P nok_P (by decide) xt_15 (by decide) rfl hnm rfl (fun _ => rfl) (fun _ => rfl) hE4 d_P_init_9 ?_
  refine xi_aload_n hC d_P_init_12 rfl 0 rfl ?_
  refine xi_bipush (v := (25 : Int32)) hC d_P_init_13 (by decide) ?_
  obtain ⟨h5, hE6, hE⟩ := xb1_inv hE
  cases hE6
  refine xi_newI (atype := .int) (N := 25) hC rfl xt_3 (by decide) (by decide) (by decide) (by decide) (by decide) d_P_init_15 ?_
  obtain ⟨h7, hE8, hE⟩ := xb1_inv hE
  refine xi_putF (C := R_P) (T := T_P) (N := 6) (ci := 3) (k := 2) hC ty_P rfl iws_P tok_P nok_P (by decide) xt_16 (by decide) rfl hnm rfl (fun _ => rfl) (fun _ => rfl) hE8 d_P_init_17 ?_
  refine xi_aload_n hC d_P_init_20 rfl 0 rfl ?_
  refine xi_bipush (v := (25 : Int32)) hC d_P_init_21 (by decide) ?_
  obtain ⟨h9, hE10, hE⟩ := xb1_inv hE
  cases hE10
  refine xi_newI (atype := .int) (N := 25) hC rfl xt_3 (by decide) (by decide) (by decide) (by decide) (by decide) d_P_init_23 ?_
  obtain ⟨h11, hE12, hE⟩ := xb1_inv hE
  refine xi_putF (C := R_P) (T := T_P) (N := 6) (ci := 3) (k := 3) hC ty_P rfl iws_P tok_P nok_P (by decide) xt_17 (by decide) rfl hnm rfl (fun _ => rfl) (fun _ => rfl) hE12 d_P_init_25 ?_
  refine xi_aload_n hC d_P_init_28 rfl 0 rfl ?_
  refine xi_bipush (v := (24 : Int32)) hC d_P_init_29 (by decide) ?_
  obtain ⟨h13, hE14, hE⟩ := xb1_inv hE
  cases hE14
  refine xi_newI (atype := .int) (N := 24) hC rfl xt_3 (by decide) (by decide) (by decide) (by decide) (by decide) d_P_init_31 ?_
  obtain ⟨h15, hE16, hE⟩ := xb1_inv hE
  refine xi_putF (C := R_P) (T := T_P) (N := 6) (ci := 3) (k := 4) hC ty_P rfl iws_P tok_P nok_P (by decide) xt_18 (by decide) rfl hnm rfl (fun _ => rfl) (fun _ => rfl) hE16 d_P_init_33 ?_
  refine xi_aload_n hC d_P_init_36 rfl 0 rfl ?_
  refine xi_bipush (v := (26 : Int32)) hC d_P_init_37 (by decide) ?_
  obtain ⟨h17, hE18, hE⟩ := xb1_inv hE
  cases hE18
  refine xi_newI (atype := .int) (N := 26) hC rfl xt_3 (by decide) (by decide) (by decide) (by decide) (by decide) d_P_init_39 ?_
  obtain ⟨h19, hE20, hE⟩ := xb1_inv hE
  refine xi_putF (C := R_P) (T := T_P) (N := 6) (ci := 3) (k := 5) hC ty_P rfl iws_P tok_P nok_P (by decide) xt_19 (by decide) rfl hnm rfl (fun _ => rfl) (fun _ => rfl) hE20 d_P_init_41 ?_
  cases hE
  exact xi_vret hC hr hlk d_P_init_44
set_option maxRecDepth 100000 in
theorem x_P_init {l : Launch} {D : va_G} {r0 : Nat} {n : Nat} {h : XH} {n' : Nat} {h' : XH} (hE : X_P_init r0 n h = some (n', h')) : XMet l y_P_init c_P_init 1 none XTs XCL XNW XAL D ({ frames := 1, cells := 5, slots := 125, locals := 20 } : Room) 5 125 [.ref r0] n h none n' h' := by
  refine XMet.mk (by decide) xNW_good xTs_good (Nat.le_of_ble_eq_true rfl) ?_
  intro p e s m args below meth c A ad0 hC hr hlk hnm
  refine xi_locs (lv' := [(0, .ref r0)]) [0] rfl ?_
  exact s_P_init_0 hC hr hlk hnm _ n h _ _ hE

set_option maxRecDepth 100000 in
set_option maxHeartbeats 4000000 in
theorem s_T_init_0 {p : Program} {l : Launch} {e : Env} {s : State} {m : MethodId} {args : Array Value} {below : List Frame} {meth : Method} {c : Code} {D : va_G} {A : Nat → Prop} {ad0 : Nat → Nat} {n0 : Nat} (hC : XC p s m args c c_T_init 1 y_T_init.cls XTs XCL XNW XAL D A) (hr : meth.sig.returnType = none) (hlk : meth.locks = false) (hnm : meth.name = y_T_init.name)   (r0 : Nat) (n : Nat) (h : XH) (n' : Nat) (h' : XH) (hE : D_T_init_0  r0 n h = some (n', h')) : XW p l e ({ frames := 2, cells := 18, slots := 405, locals := 40 } : Room) s m args below meth c 1 XCL D A ad0 n0 0 0 (MQ below (xQc D XCL n0 ad0 A none n' h') args s 18 405 A) n h 0 [(0, .ref r0)] [] := by
  unfold D_T_init_0 at hE
  refine xi_aload_n hC d_T_init_0 rfl 0 rfl ?_
  refine xi_objInit hC xt_20 xt_1 xt_2 d_T_init_1 (by decide) (by decide) (Nat.le_of_ble_eq_true rfl) ?_
  refine xi_aload_n hC d_T_init_4 rfl 0 rfl ?_
  obtain ⟨h1, hE2, hE⟩ := xb1_inv hE
  cases hE2
  refine xi_new (C := R_U) (T := T_U) (N := 6) (ci := 1) (fs := [.int 0, .null, .null, .null, .null, .null]) hC ty_U rfl iws_U tok_U xt_21 xt_22 xt_23 dfl_U (fun _ => rfl) xl0_U (by decide) (by decide) d_T_init_5 ?_
  refine xi_dup hC d_T_init_8 rfl ?_
  obtain ⟨n3, h4, hE5, hE⟩ := xb2_inv hE
  refine xi_callI (as := []) (st := [.ref (n + 1), .ref r0]) hC (x_U_init hE5) xt_25 xt_26 xt_23 xt_24 rfl ⟨by decide, by decide, (by decide +kernel : (parseMethodDescriptor y_U_init.desc).map (fun d => d.parameters.length) = some 0)⟩ rfl rfl ⟨by decide, by decide⟩ ⟨by decide, by decide⟩ (Nat.le_of_ble_eq_true rfl) rfl d_T_init_9 ?_
  obtain ⟨h6, hE7, hE⟩ := xb1_inv hE
  refine xi_putF (C := R_T) (T := T_T) (N := 6) (ci := 0) (k := 0) hC ty_T rfl iws_T tok_T nok_T (by decide) xt_27 (by decide) rfl hnm rfl (fun _ => rfl) (fun _ => rfl) hE7 d_T_init_12 ?_
  refine xi_aload_n hC d_T_init_15 rfl 0 rfl ?_
  obtain ⟨h8, hE9, hE⟩ := xb1_inv hE
  cases hE9
  refine xi_new (C := R_G) (T := T_G) (N := 5) (ci := 2) (fs := [.null, .null, .null, .null, .int 0]) hC ty_G rfl iws_G tok_G xt_28 xt_29 xt_30 dfl_G (fun _ => rfl) xl0_G (by decide) (by decide) d_T_init_16 ?_
  refine xi_dup hC d_T_init_19 rfl ?_
  obtain ⟨n10, h11, hE12, hE⟩ := xb2_inv hE
  refine xi_callI (as := []) (st := [.ref (n3 + 1), .ref r0]) hC (x_G_init hE12) xt_32 xt_33 xt_30 xt_31 rfl ⟨by decide, by decide, (by decide +kernel : (parseMethodDescriptor y_G_init.desc).map (fun d => d.parameters.length) = some 0)⟩ rfl rfl ⟨by decide, by decide⟩ ⟨by decide, by decide⟩ (Nat.le_of_ble_eq_true rfl) rfl d_T_init_20 ?_
  obtain ⟨h13, hE14, hE⟩ := xb1_inv hE
  refine xi_putF (C := R_T) (T := T_T) (N := 6) (ci := 0) (k := 1) hC ty_T rfl iws_T tok_T nok_T (by decide) xt_34 (by decide) rfl hnm rfl (fun _ => rfl) (fun _ => rfl) hE14 d_T_init_23 ?_
  refine xi_aload_n hC d_T_init_26 rfl 0 rfl ?_
  refine xi_bipush (v := (40 : Int32)) hC d_T_init_27 (by decide) ?_
  obtain ⟨h15, hE16, hE⟩ := xb1_inv hE
  cases hE16
  refine xi_newQ (C := "TaskBuild$Plan") (N := 40) hC xt_35 (by decide) (by decide) (by decide) (by decide) (by decide) (by decide) d_T_init_29 ?_
  obtain ⟨h17, hE18, hE⟩ := xb1_inv hE
  refine xi_putF (C := R_T) (T := T_T) (N := 6) (ci := 0) (k := 2) hC ty_T rfl iws_T tok_T nok_T (by decide) xt_36 (by decide) rfl hnm rfl (fun _ => rfl) (fun _ => rfl) hE18 d_T_init_32 ?_
  refine xi_aload_n hC d_T_init_35 rfl 0 rfl ?_
  obtain ⟨h19, hE20, hE⟩ := xb1_inv hE
  cases hE20
  refine xi_new (C := R_P) (T := T_P) (N := 6) (ci := 3) (fs := [.int 0, .null, .null, .null, .null, .null]) hC ty_P rfl iws_P tok_P xt_35 xt_37 xt_38 dfl_P (fun _ => rfl) xl0_P (by decide) (by decide) d_T_init_36 ?_
  refine xi_dup hC d_T_init_39 rfl ?_
  obtain ⟨n21, h22, hE23, hE⟩ := xb2_inv hE
  refine xi_callI (as := []) (st := [.ref (n10 + 1 + 1), .ref r0]) hC (x_P_init hE23) xt_40 xt_41 xt_38 xt_39 rfl ⟨by decide, by decide, (by decide +kernel : (parseMethodDescriptor y_P_init.desc).map (fun d => d.parameters.length) = some 0)⟩ rfl rfl ⟨by decide, by decide⟩ ⟨by decide, by decide⟩ (Nat.le_of_ble_eq_true rfl) rfl d_T_init_40 ?_
  obtain ⟨h24, hE25, hE⟩ := xb1_inv hE
  refine xi_putF (C := R_T) (T := T_T) (N := 6) (ci := 0) (k := 4) hC ty_T rfl iws_T tok_T nok_T (by decide) xt_42 (by decide) rfl hnm rfl (fun _ => rfl) (fun _ => rfl) hE25 d_T_init_43 ?_
  cases hE
  exact xi_vret hC hr hlk d_T_init_46
set_option maxRecDepth 100000 in
theorem x_T_init {l : Launch} {D : va_G} {r0 : Nat} {n : Nat} {h : XH} {n' : Nat} {h' : XH} (hE : X_T_init r0 n h = some (n', h')) : XMet l y_T_init c_T_init 1 none XTs XCL XNW XAL D ({ frames := 2, cells := 18, slots := 405, locals := 40 } : Room) 18 405 [.ref r0] n h none n' h' := by
  refine XMet.mk (by decide) xNW_good xTs_good (Nat.le_of_ble_eq_true rfl) ?_
  intro p e s m args below meth c A ad0 hC hr hlk hnm
  refine xi_locs (lv' := [(0, .ref r0)]) [0] rfl ?_
  exact s_T_init_0 hC hr hlk hnm _ n h _ _ hE

set_option maxRecDepth 100000 in
set_option maxHeartbeats 4000000 in
theorem s_T_isWithin_15 {p : Program} {l : Launch} {e : Env} {s : State} {m : MethodId} {args : Array Value} {below : List Frame} {meth : Method} {c : Code} {D : va_G} {A : Nat → Prop} {ad0 : Nat → Nat} {n0 : Nat} (hC : XC p s m args c c_T_isWithin 3 y_T_isWithin.cls XTs XCL XNW XAL D A) (hr : meth.sig.returnType = some .boolean) (hlk : meth.locks = false) (hnm : meth.name = y_T_isWithin.name)   (s0 : Int32) (n : Nat) (h : XH) (rr : Int32)  (hE : D_T_isWithin_15  s0 h = some rr) : XW p l e ({ frames := 0, cells := 0, slots := 0, locals := 0 } : Room) s m args below meth c 3 XCL D A ad0 n0 0 0 (MQ below (xQc D XCL n0 ad0 A (some (.int rr)) n h) args s 0 0 A) n h 15 [] [.int s0] := by
  unfold D_T_isWithin_15 at hE
  obtain ⟨hb1, hE⟩ := xchk_inv hE
  cases hE
  exact xi_zret hC hr (xzb_nar hb1) hlk d_T_isWithin_15
set_option maxRecDepth 100000 in
set_option maxHeartbeats 4000000 in
theorem s_T_isWithin_14 {p : Program} {l : Launch} {e : Env} {s : State} {m : MethodId} {args : Array Value} {below : List Frame} {meth : Method} {c : Code} {D : va_G} {A : Nat → Prop} {ad0 : Nat → Nat} {n0 : Nat} (hC : XC p s m args c c_T_isWithin 3 y_T_isWithin.cls XTs XCL XNW XAL D A) (hr : meth.sig.returnType = some .boolean) (hlk : meth.locks = false) (hnm : meth.name = y_T_isWithin.name)    (n : Nat) (h : XH) (rr : Int32)  (hE : D_T_isWithin_14   h = some rr) : XW p l e ({ frames := 0, cells := 0, slots := 0, locals := 0 } : Room) s m args below meth c 3 XCL D A ad0 n0 0 0 (MQ below (xQc D XCL n0 ad0 A (some (.int rr)) n h) args s 0 0 A) n h 14 [] [] := by
  unfold D_T_isWithin_14 at hE
  refine xi_iconst (v := (0 : Int32)) hC d_T_isWithin_14 (by decide) ?_
  refine xi_locs (lv' := []) [] rfl ?_
  exact s_T_isWithin_15 hC hr hlk hnm _ _ _ _ hE
set_option maxRecDepth 100000 in
set_option maxHeartbeats 4000000 in
theorem s_T_isWithin_0 {p : Program} {l : Launch} {e : Env} {s : State} {m : MethodId} {args : Array Value} {below : List Frame} {meth : Method} {c : Code} {D : va_G} {A : Nat → Prop} {ad0 : Nat → Nat} {n0 : Nat} (hC : XC p s m args c c_T_isWithin 3 y_T_isWithin.cls XTs XCL XNW XAL D A) (hr : meth.sig.returnType = some .boolean) (hlk : meth.locks = false) (hnm : meth.name = y_T_isWithin.name)   (x0 : Int32) (x1 : Int32) (x2 : Int32) (n : Nat) (h : XH) (rr : Int32)  (hE : D_T_isWithin_0  x0 x1 x2 h = some rr) : XW p l e ({ frames := 0, cells := 0, slots := 0, locals := 0 } : Room) s m args below meth c 3 XCL D A ad0 n0 0 0 (MQ below (xQc D XCL n0 ad0 A (some (.int rr)) n h) args s 0 0 A) n h 0 [(0, .int x0), (1, .int x1), (2, .int x2)] [] := by
  unfold D_T_isWithin_0 at hE
  refine xi_iload_n hC d_T_isWithin_0 rfl 0 rfl ?_
  refine xi_iload_n hC d_T_isWithin_1 rfl 1 rfl ?_
  refine xi_icmp_lt (tgt := 14) hC d_T_isWithin_2 (by decide) (fun hz1 => ?_) (fun hz1 => ?_)
  · rw [if_pos hz1] at hE
    refine xi_locs (lv' := []) [] rfl ?_
    exact s_T_isWithin_14 hC hr hlk hnm _ _ _ hE
  · rw [if_neg hz1] at hE
    refine xi_iload_n hC d_T_isWithin_5 rfl 0 rfl ?_
    refine xi_iload_n hC d_T_isWithin_6 rfl 2 rfl ?_
    refine xi_icmp_gt (tgt := 14) hC d_T_isWithin_7 (by decide) (fun hz2 => ?_) (fun hz2 => ?_)
    · rw [if_pos hz2] at hE
      refine xi_locs (lv' := []) [] rfl ?_
      exact s_T_isWithin_14 hC hr hlk hnm _ _ _ hE
    · rw [if_neg hz2] at hE
      refine xi_iconst (v := (1 : Int32)) hC d_T_isWithin_10 (by decide) ?_
      refine xi_goto (tgt := 15) hC d_T_isWithin_11 (by decide) ?_
      refine xi_locs (lv' := []) [] rfl ?_
      exact s_T_isWithin_15 hC hr hlk hnm _ _ _ _ hE
set_option maxRecDepth 100000 in
theorem x_T_isWithin {l : Launch} {D : va_G} {x0 : Int32} {x1 : Int32} {x2 : Int32} {n : Nat} {h : XH} {rr : Int32}  (hE : X_T_isWithin x0 x1 x2 h = some rr) : XMet l y_T_isWithin c_T_isWithin 3 (some .boolean) XTs XCL XNW XAL D ({ frames := 0, cells := 0, slots := 0, locals := 0 } : Room) 0 0 [.int x0, .int x1, .int x2] n h (some (.int rr)) n h := by
  refine XMet.mk (by decide) xNW_good xTs_good (Nat.le_of_ble_eq_true rfl) ?_
  intro p e s m args below meth c A ad0 hC hr hlk hnm
  refine xi_locs (lv' := [(0, .int x0), (1, .int x1), (2, .int x2)]) [0, 1, 2] rfl ?_
  exact s_T_isWithin_0 hC hr hlk hnm _ _ _ n h _ hE

set_option maxRecDepth 100000 in
set_option maxHeartbeats 4000000 in
theorem s_U_isFull_14 {p : Program} {l : Launch} {e : Env} {s : State} {m : MethodId} {args : Array Value} {below : List Frame} {meth : Method} {c : Code} {D : va_G} {A : Nat → Prop} {ad0 : Nat → Nat} {n0 : Nat} (hC : XC p s m args c c_U_isFull 1 y_U_isFull.cls XTs XCL XNW XAL D A) (hr : meth.sig.returnType = some .boolean) (hlk : meth.locks = false) (hnm : meth.name = y_U_isFull.name)   (s0 : Int32) (n : Nat) (h : XH) (rr : Int32)  (hE : D_U_isFull_14  s0 h = some rr) : XW p l e ({ frames := 0, cells := 0, slots := 0, locals := 0 } : Room) s m args below meth c 1 XCL D A ad0 n0 0 0 (MQ below (xQc D XCL n0 ad0 A (some (.int rr)) n h) args s 0 0 A) n h 14 [] [.int s0] := by
  unfold D_U_isFull_14 at hE
  obtain ⟨hb1, hE⟩ := xchk_inv hE
  cases hE
  exact xi_zret hC hr (xzb_nar hb1) hlk d_U_isFull_14
set_option maxRecDepth 100000 in
set_option maxHeartbeats 4000000 in
theorem s_U_isFull_0 {p : Program} {l : Launch} {e : Env} {s : State} {m : MethodId} {args : Array Value} {below : List Frame} {meth : Method} {c : Code} {D : va_G} {A : Nat → Prop} {ad0 : Nat → Nat} {n0 : Nat} (hC : XC p s m args c c_U_isFull 1 y_U_isFull.cls XTs XCL XNW XAL D A) (hr : meth.sig.returnType = some .boolean) (hlk : meth.locks = false) (hnm : meth.name = y_U_isFull.name)   (r0 : Nat) (n : Nat) (h : XH) (rr : Int32)  (hE : D_U_isFull_0  r0 h = some rr) : XW p l e ({ frames := 0, cells := 0, slots := 0, locals := 0 } : Room) s m args below meth c 1 XCL D A ad0 n0 0 0 (MQ below (xQc D XCL n0 ad0 A (some (.int rr)) n h) args s 0 0 A) n h 0 [(0, .ref r0)] [] := by
  unfold D_U_isFull_0 at hE
  refine xi_aload_n hC d_U_isFull_0 rfl 0 rfl ?_
  obtain ⟨v2, hE1, hE⟩ := xb1_inv hE
  refine xi_get (C := R_U) (T := T_U) (N := 6) (ci := 1) (k := 0) hC rfl iws_U (by decide) xt_43 (by decide) (xgI_inv hE1) d_U_isFull_1 ?_
  refine xi_bipush (v := (24 : Int32)) hC d_U_isFull_4 (by decide) ?_
  refine xi_icmp_lt (tgt := 13) hC d_U_isFull_6 (by decide) (fun hz3 => ?_) (fun hz3 => ?_)
  · rw [if_pos hz3] at hE
    refine xi_iconst (v := (0 : Int32)) hC d_U_isFull_13 (by decide) ?_
    refine xi_locs (lv' := []) [] rfl ?_
    exact s_U_isFull_14 hC hr hlk hnm _ _ _ _ hE
  · rw [if_neg hz3] at hE
    refine xi_iconst (v := (1 : Int32)) hC d_U_isFull_9 (by decide) ?_
    refine xi_goto (tgt := 14) hC d_U_isFull_10 (by decide) ?_
    refine xi_locs (lv' := []) [] rfl ?_
    exact s_U_isFull_14 hC hr hlk hnm _ _ _ _ hE
set_option maxRecDepth 100000 in
theorem x_U_isFull {l : Launch} {D : va_G} {r0 : Nat} {n : Nat} {h : XH} {rr : Int32}  (hE : X_U_isFull r0 h = some rr) : XMet l y_U_isFull c_U_isFull 1 (some .boolean) XTs XCL XNW XAL D ({ frames := 0, cells := 0, slots := 0, locals := 0 } : Room) 0 0 [.ref r0] n h (some (.int rr)) n h := by
  refine XMet.mk (by decide) xNW_good xTs_good (Nat.le_of_ble_eq_true rfl) ?_
  intro p e s m args below meth c A ad0 hC hr hlk hnm
  refine xi_locs (lv' := [(0, .ref r0)]) [0] rfl ?_
  exact s_U_isFull_0 hC hr hlk hnm _ n h _ hE

set_option maxRecDepth 100000 in
set_option maxHeartbeats 4000000 in
theorem s_U_add_0 {p : Program} {l : Launch} {e : Env} {s : State} {m : MethodId} {args : Array Value} {below : List Frame} {meth : Method} {c : Code} {D : va_G} {A : Nat → Prop} {ad0 : Nat → Nat} {n0 : Nat} (hC : XC p s m args c c_U_add 4 y_U_add.cls XTs XCL XNW XAL D A) (hr : meth.sig.returnType = some .int) (hlk : meth.locks = false) (hnm : meth.name = y_U_add.name)   (r0 : Nat) (x1 : Int32) (x2 : Int32) (x3 : Int32) (n : Nat) (h : XH) (rr : Int32) (h' : XH) (hE : D_U_add_0  r0 x1 x2 x3 h = some (rr, h')) : XW p l e ({ frames := 0, cells := 0, slots := 0, locals := 0 } : Room) s m args below meth c 4 XCL D A ad0 n0 0 0 (MQ below (xQc D XCL n0 ad0 A (some (.int rr)) n h') args s 0 0 A) n h 0 [(0, .ref r0), (1, .int x1), (2, .int x2), (3, .int x3)] [] := by
  unfold D_U_add_0 at hE
  refine xi_aload_n hC d_U_add_0 rfl 0 rfl ?_
  refine xi_dup hC d_U_add_1 rfl ?_
  obtain ⟨v2, hE1, hE⟩ := xb1_inv hE
  refine xi_get (C := R_U) (T := T_U) (N := 6) (ci := 1) (k := 0) hC rfl iws_U (by decide) xt_43 (by decide) (xgI_inv hE1) d_U_add_2 ?_
  refine xi_iconst (v := (1 : Int32)) hC d_U_add_5 (by decide) ?_
  refine xi_iadd hC d_U_add_6 ?_
  obtain ⟨h3, hE4, hE⟩ := xb1_inv hE
  refine xi_put (C := R_U) (T := T_U) (N := 6) (ci := 1) (k := 0) hC ty_U rfl iws_U tok_U nok_U (by decide) xt_43 (by decide) rfl (fun _ => rfl) (fun _ => rfl) hE4 d_U_add_7 ?_
  refine xi_aload_n hC d_U_add_10 rfl 0 rfl ?_
  obtain ⟨q6, hE5, hE⟩ := xb1_inv hE
  refine xi_get (C := R_U) (T := T_U) (N := 6) (ci := 1) (k := 1) hC rfl iws_U (by decide) xt_4 (by decide) (xgR_inv hE5) d_U_add_11 ?_
  refine xi_aload_n hC d_U_add_14 rfl 0 rfl ?_
  obtain ⟨v8, hE7, hE⟩ := xb1_inv hE
  refine xi_get (C := R_U) (T := T_U) (N := 6) (ci := 1) (k := 0) hC rfl iws_U (by decide) xt_43 (by decide) (xgI_inv hE7) d_U_add_15 ?_
  refine xi_iload_n hC d_U_add_18 rfl 1 rfl ?_
  obtain ⟨h9, hE10, hE⟩ := xb1_inv hE
  refine xi_iast hC hE10 d_U_add_19 ?_
  refine xi_aload_n hC d_U_add_20 rfl 0 rfl ?_
  obtain ⟨q12, hE11, hE⟩ := xb1_inv hE
  refine xi_get (C := R_U) (T := T_U) (N := 6) (ci := 1) (k := 2) hC rfl iws_U (by decide) xt_5 (by decide) (xgR_inv hE11) d_U_add_21 ?_
  refine xi_aload_n hC d_U_add_24 rfl 0 rfl ?_
  obtain ⟨v14, hE13, hE⟩ := xb1_inv hE
  refine xi_get (C := R_U) (T := T_U) (N := 6) (ci := 1) (k := 0) hC rfl iws_U (by decide) xt_43 (by decide) (xgI_inv hE13) d_U_add_25 ?_
  refine xi_iload_n hC d_U_add_28 rfl 2 rfl ?_
  obtain ⟨h15, hE16, hE⟩ := xb1_inv hE
  refine xi_iast hC hE16 d_U_add_29 ?_
  refine xi_aload_n hC d_U_add_30 rfl 0 rfl ?_
  obtain ⟨q18, hE17, hE⟩ := xb1_inv hE
  refine xi_get (C := R_U) (T := T_U) (N := 6) (ci := 1) (k := 3) hC rfl iws_U (by decide) xt_6 (by decide) (xgR_inv hE17) d_U_add_31 ?_
  refine xi_aload_n hC d_U_add_34 rfl 0 rfl ?_
  obtain ⟨v20, hE19, hE⟩ := xb1_inv hE
  refine xi_get (C := R_U) (T := T_U) (N := 6) (ci := 1) (k := 0) hC rfl iws_U (by decide) xt_43 (by decide) (xgI_inv hE19) d_U_add_35 ?_
  refine xi_iload_n hC d_U_add_38 rfl 3 rfl ?_
  obtain ⟨h21, hE22, hE⟩ := xb1_inv hE
  refine xi_iast hC hE22 d_U_add_39 ?_
  refine xi_aload_n hC d_U_add_40 rfl 0 rfl ?_
  obtain ⟨v24, hE23, hE⟩ := xb1_inv hE
  refine xi_get (C := R_U) (T := T_U) (N := 6) (ci := 1) (k := 0) hC rfl iws_U (by decide) xt_43 (by decide) (xgI_inv hE23) d_U_add_41 ?_
  cases hE
  exact xi_iret hC hr hlk d_U_add_44
set_option maxRecDepth 100000 in
theorem x_U_add {l : Launch} {D : va_G} {r0 : Nat} {x1 : Int32} {x2 : Int32} {x3 : Int32} {n : Nat} {h : XH} {rr : Int32} {h' : XH} (hE : X_U_add r0 x1 x2 x3 h = some (rr, h')) : XMet l y_U_add c_U_add 4 (some .int) XTs XCL XNW XAL D ({ frames := 0, cells := 0, slots := 0, locals := 0 } : Room) 0 0 [.ref r0, .int x1, .int x2, .int x3] n h (some (.int rr)) n h' := by
  refine XMet.mk (by decide) xNW_good xTs_good (Nat.le_of_ble_eq_true rfl) ?_
  intro p e s m args below meth c A ad0 hC hr hlk hnm
  refine xi_locs (lv' := [(0, .ref r0), (1, .int x1), (2, .int x2), (3, .int x3)]) [0, 1, 2, 3] rfl ?_
  exact s_U_add_0 hC hr hlk hnm _ _ _ _ n h _ _ hE

set_option maxRecDepth 100000 in
set_option maxHeartbeats 4000000 in
theorem s_T_runnable_30 {p : Program} {l : Launch} {e : Env} {s : State} {m : MethodId} {args : Array Value} {below : List Frame} {meth : Method} {c : Code} {D : va_G} {A : Nat → Prop} {ad0 : Nat → Nat} {n0 : Nat} (hC : XC p s m args c c_T_runnable 4 y_T_runnable.cls XTs XCL XNW XAL D A) (hr : meth.sig.returnType = some .int) (hlk : meth.locks = false) (hnm : meth.name = y_T_runnable.name)    (n : Nat) (h : XH) (rr : Int32) (h' : XH) (hE : D_T_runnable_30   h = some (rr, h')) : XW p l e ({ frames := 1, cells := 0, slots := 0, locals := 23 } : Room) s m args below meth c 4 XCL D A ad0 n0 0 0 (MQ below (xQc D XCL n0 ad0 A (some (.int rr)) n h') args s 0 0 A) n h 30 [] [] := by
  unfold D_T_runnable_30 at hE
  refine xi_bipush (v := (-2 : Int32)) hC d_T_runnable_30 (by decide) ?_
  cases hE
  exact xi_iret hC hr hlk d_T_runnable_32
set_option maxRecDepth 100000 in
set_option maxHeartbeats 4000000 in
theorem s_T_runnable_0 {p : Program} {l : Launch} {e : Env} {s : State} {m : MethodId} {args : Array Value} {below : List Frame} {meth : Method} {c : Code} {D : va_G} {A : Nat → Prop} {ad0 : Nat → Nat} {n0 : Nat} (hC : XC p s m args c c_T_runnable 4 y_T_runnable.cls XTs XCL XNW XAL D A) (hr : meth.sig.returnType = some .int) (hlk : meth.locks = false) (hnm : meth.name = y_T_runnable.name)   (r0 : Nat) (x1 : Int32) (x2 : Int32) (x3 : Int32) (n : Nat) (h : XH) (rr : Int32) (h' : XH) (hE : D_T_runnable_0  r0 x1 x2 x3 h = some (rr, h')) : XW p l e ({ frames := 1, cells := 0, slots := 0, locals := 23 } : Room) s m args below meth c 4 XCL D A ad0 n0 0 0 (MQ below (xQc D XCL n0 ad0 A (some (.int rr)) n h') args s 0 0 A) n h 0 [(0, .ref r0), (1, .int x1), (2, .int x2), (3, .int x3)] [] := by
  unfold D_T_runnable_0 at hE
  refine xi_iload_n hC d_T_runnable_0 rfl 1 rfl ?_
  refine xi_iconst (v := (0 : Int32)) hC d_T_runnable_1 (by decide) ?_
  refine xi_sipush (v := (1000 : Int32)) hC d_T_runnable_2 (by decide) ?_
  obtain ⟨v1, hE2, hE⟩ := xb1_inv hE
  refine xi_callS (as := [.int x1, .int (0 : Int32), .int (1000 : Int32)]) (st := []) hC (x_T_isWithin hE2) xt_45 xt_46 xt_47 xt_44 ⟨by decide, by decide, (by decide +kernel : (parseMethodDescriptor y_T_isWithin.desc).map (fun d => d.parameters.length) = some 3)⟩ rfl rfl ⟨by decide, by decide⟩ ⟨by decide, by decide⟩ (Nat.le_of_ble_eq_true rfl) rfl d_T_runnable_5 ?_
  refine xi_stk (st' := [.int v1]) rfl ?_
  refine xi_if_eq (tgt := 30) hC d_T_runnable_8 (by decide) (fun hz3 => ?_) (fun hz3 => ?_)
  · rw [if_pos hz3] at hE
    refine xi_locs (lv' := []) [] rfl ?_
    exact s_T_runnable_30 hC hr hlk hnm _ _ _ _ hE
  · rw [if_neg hz3] at hE
    refine xi_iload_n hC d_T_runnable_11 rfl 2 rfl ?_
    refine xi_iconst (v := (1 : Int32)) hC d_T_runnable_12 (by decide) ?_
    refine xi_iconst (v := (4 : Int32)) hC d_T_runnable_13 (by decide) ?_
    obtain ⟨v4, hE5, hE⟩ := xb1_inv hE
    refine xi_callS (as := [.int x2, .int (1 : Int32), .int (4 : Int32)]) (st := []) hC (x_T_isWithin hE5) xt_45 xt_46 xt_47 xt_44 ⟨by decide, by decide, (by decide +kernel : (parseMethodDescriptor y_T_isWithin.desc).map (fun d => d.parameters.length) = some 3)⟩ rfl rfl ⟨by decide, by decide⟩ ⟨by decide, by decide⟩ (Nat.le_of_ble_eq_true rfl) rfl d_T_runnable_14 ?_
    refine xi_stk (st' := [.int v4]) rfl ?_
    refine xi_if_eq (tgt := 30) hC d_T_runnable_17 (by decide) (fun hz6 => ?_) (fun hz6 => ?_)
    · rw [if_pos hz6] at hE
      refine xi_locs (lv' := []) [] rfl ?_
      exact s_T_runnable_30 hC hr hlk hnm _ _ _ _ hE
    · rw [if_neg hz6] at hE
      refine xi_iload_n hC d_T_runnable_20 rfl 3 rfl ?_
      refine xi_iconst (v := (0 : Int32)) hC d_T_runnable_21 (by decide) ?_
      refine xi_ldc (v := (100000 : Int32)) hC d_T_runnable_22 xt_48 ?_
      obtain ⟨v7, hE8, hE⟩ := xb1_inv hE
      refine xi_callS (as := [.int x3, .int (0 : Int32), .int (100000 : Int32)]) (st := []) hC (x_T_isWithin hE8) xt_45 xt_46 xt_47 xt_44 ⟨by decide, by decide, (by decide +kernel : (parseMethodDescriptor y_T_isWithin.desc).map (fun d => d.parameters.length) = some 3)⟩ rfl rfl ⟨by decide, by decide⟩ ⟨by decide, by decide⟩ (Nat.le_of_ble_eq_true rfl) rfl d_T_runnable_24 ?_
      refine xi_stk (st' := [.int v7]) rfl ?_
      refine xi_if_ne (tgt := 33) hC d_T_runnable_27 (by decide) (fun hz9 => ?_) (fun hz9 => ?_)
      · rw [if_neg hz9] at hE
        refine xi_aload_n hC d_T_runnable_33 rfl 0 rfl ?_
        obtain ⟨q11, hE10, hE⟩ := xb1_inv hE
        refine xi_get (C := R_T) (T := T_T) (N := 6) (ci := 0) (k := 0) hC rfl iws_T (by decide) xt_27 (by decide) (xgR_inv hE10) d_T_runnable_34 ?_
        obtain ⟨hI14, hE⟩ := xchk_inv hE
        obtain ⟨v12, hE13, hE⟩ := xb1_inv hE
        refine xi_callV (as := []) (st := []) (C := R_U) (T := T_U) (N := 6) hC (x_U_isFull hE13) rfl (by decide) hI14 xt_50 xt_51 xt_52 xt_23 xt_49 ⟨by decide, by decide, (by decide +kernel : (parseMethodDescriptor y_U_isFull.desc).map (fun d => d.parameters.length) = some 0)⟩ rfl rfl ⟨by decide, by decide⟩ ⟨by decide, by decide⟩ (Nat.le_of_ble_eq_true rfl) rfl d_T_runnable_37 ?_
        refine xi_stk (st' := [.int v12]) rfl ?_
        refine xi_if_eq (tgt := 46) hC d_T_runnable_40 (by decide) (fun hz15 => ?_) (fun hz15 => ?_)
        · rw [if_pos hz15] at hE
          refine xi_aload_n hC d_T_runnable_46 rfl 0 rfl ?_
          refine xi_null hC d_T_runnable_47 ?_
          obtain ⟨h16, hE17, hE⟩ := xb1_inv hE
          refine xi_put (C := R_T) (T := T_T) (N := 6) (ci := 0) (k := 5) hC ty_T rfl iws_T tok_T nok_T (by decide) xt_53 (by decide) rfl (fun _ => rfl) (fun _ => rfl) hE17 d_T_runnable_48 ?_
          refine xi_aload_n hC d_T_runnable_51 rfl 0 rfl ?_
          obtain ⟨q19, hE18, hE⟩ := xb1_inv hE
          refine xi_get (C := R_T) (T := T_T) (N := 6) (ci := 0) (k := 0) hC rfl iws_T (by decide) xt_27 (by decide) (xgR_inv hE18) d_T_runnable_52 ?_
          refine xi_iload_n hC d_T_runnable_55 rfl 1 rfl ?_
          refine xi_iload_n hC d_T_runnable_56 rfl 2 rfl ?_
          refine xi_iload_n hC d_T_runnable_57 rfl 3 rfl ?_
          obtain ⟨hI23, hE⟩ := xchk_inv hE
          obtain ⟨v20, h21, hE22, hE⟩ := xb2_inv hE
          refine xi_callV (as := [.int x1, .int x2, .int x3]) (st := []) (C := R_U) (T := T_U) (N := 6) hC (x_U_add hE22) rfl (by decide) hI23 xt_55 xt_56 xt_57 xt_23 xt_54 ⟨by decide, by decide, (by decide +kernel : (parseMethodDescriptor y_U_add.desc).map (fun d => d.parameters.length) = some 3)⟩ rfl rfl ⟨by decide, by decide⟩ ⟨by decide, by decide⟩ (Nat.le_of_ble_eq_true rfl) rfl d_T_runnable_58 ?_
          refine xi_stk (st' := [.int v20]) rfl ?_
          cases hE
          exact xi_iret hC hr hlk d_T_runnable_61
        · rw [if_neg hz15] at hE
          refine xi_bipush (v := (-4 : Int32)) hC d_T_runnable_43 (by decide) ?_
          cases hE
          exact xi_iret hC hr hlk d_T_runnable_45
      · rw [if_pos hz9] at hE
        refine xi_locs (lv' := []) [] rfl ?_
        exact s_T_runnable_30 hC hr hlk hnm _ _ _ _ hE
set_option maxRecDepth 100000 in
theorem x_T_runnable {l : Launch} {D : va_G} {r0 : Nat} {x1 : Int32} {x2 : Int32} {x3 : Int32} {n : Nat} {h : XH} {rr : Int32} {h' : XH} (hE : X_T_runnable r0 x1 x2 x3 h = some (rr, h')) : XMet l y_T_runnable c_T_runnable 4 (some .int) XTs XCL XNW XAL D ({ frames := 1, cells := 0, slots := 0, locals := 23 } : Room) 0 0 [.ref r0, .int x1, .int x2, .int x3] n h (some (.int rr)) n h' := by
  refine XMet.mk (by decide) xNW_good xTs_good (Nat.le_of_ble_eq_true rfl) ?_
  intro p e s m args below meth c A ad0 hC hr hlk hnm
  refine xi_locs (lv' := [(0, .ref r0), (1, .int x1), (2, .int x2), (3, .int x3)]) [0, 1, 2, 3] rfl ?_
  exact s_T_runnable_0 hC hr hlk hnm _ _ _ _ n h _ _ hE

set_option maxRecDepth 100000 in
set_option maxHeartbeats 4000000 in
theorem s_U_has_0 {p : Program} {l : Launch} {e : Env} {s : State} {m : MethodId} {args : Array Value} {below : List Frame} {meth : Method} {c : Code} {D : va_G} {A : Nat → Prop} {ad0 : Nat → Nat} {n0 : Nat} (hC : XC p s m args c c_U_has 2 y_U_has.cls XTs XCL XNW XAL D A) (hr : meth.sig.returnType = some .boolean) (hlk : meth.locks = false) (hnm : meth.name = y_U_has.name)   (r0 : Nat) (x1 : Int32) (n : Nat) (h : XH) (rr : Int32)  (hE : D_U_has_0  r0 x1 h = some rr) : XW p l e ({ frames := 1, cells := 0, slots := 0, locals := 22 } : Room) s m args below meth c 2 XCL D A ad0 n0 0 0 (MQ below (xQc D XCL n0 ad0 A (some (.int rr)) n h) args s 0 0 A) n h 0 [(0, .ref r0), (1, .int x1)] [] := by
  unfold D_U_has_0 at hE
  refine xi_iload_n hC d_U_has_0 rfl 1 rfl ?_
  refine xi_iconst (v := (1 : Int32)) hC d_U_has_1 (by decide) ?_
  refine xi_aload_n hC d_U_has_2 rfl 0 rfl ?_
  obtain ⟨v2, hE1, hE⟩ := xb1_inv hE
  refine xi_get (C := R_U) (T := T_U) (N := 6) (ci := 1) (k := 0) hC rfl iws_U (by decide) xt_43 (by decide) (xgI_inv hE1) d_U_has_3 ?_
  obtain ⟨v3, hE4, hE⟩ := xb1_inv hE
  refine xi_callSN (as := [.int x1, .int (1 : Int32), .int v2]) (st := []) hC (x_T_isWithin hE4) xn_0 xt_46 xt_47 xt_44 ⟨by decide, by decide, (by decide +kernel : (parseMethodDescriptor y_T_isWithin.desc).map (fun d => d.parameters.length) = some 3)⟩ rfl rfl ⟨by decide, by decide⟩ ⟨by decide, by decide⟩ (Nat.le_of_ble_eq_true rfl) rfl d_U_has_6 ?_
  refine xi_stk (st' := [.int v3]) rfl ?_
  obtain ⟨hb5, hE⟩ := xchk_inv hE
  cases hE
  exact xi_zret hC hr (xzb_nar hb5) hlk d_U_has_9
set_option maxRecDepth 100000 in
theorem x_U_has {l : Launch} {D : va_G} {r0 : Nat} {x1 : Int32} {n : Nat} {h : XH} {rr : Int32}  (hE : X_U_has r0 x1 h = some rr) : XMet l y_U_has c_U_has 2 (some .boolean) XTs XCL XNW XAL D ({ frames := 1, cells := 0, slots := 0, locals := 22 } : Room) 0 0 [.ref r0, .int x1] n h (some (.int rr)) n h := by
  refine XMet.mk (by decide) xNW_good xTs_good (Nat.le_of_ble_eq_true rfl) ?_
  intro p e s m args below meth c A ad0 hC hr hlk hnm
  refine xi_locs (lv' := [(0, .ref r0), (1, .int x1)]) [0, 1] rfl ?_
  exact s_U_has_0 hC hr hlk hnm _ _ n h _ hE

set_option maxRecDepth 100000 in
set_option maxHeartbeats 4000000 in
theorem s_T_isIn_13 {p : Program} {l : Launch} {e : Env} {s : State} {m : MethodId} {args : Array Value} {below : List Frame} {meth : Method} {c : Code} {D : va_G} {A : Nat → Prop} {ad0 : Nat → Nat} {n0 : Nat} (hC : XC p s m args c c_T_isIn 2 y_T_isIn.cls XTs XCL XNW XAL D A) (hr : meth.sig.returnType = some .boolean) (hlk : meth.locks = false) (hnm : meth.name = y_T_isIn.name)   (s0 : Int32) (n : Nat) (h : XH) (rr : Int32)  (hE : D_T_isIn_13  s0 h = some rr) : XW p l e ({ frames := 0, cells := 0, slots := 0, locals := 0 } : Room) s m args below meth c 2 XCL D A ad0 n0 0 0 (MQ below (xQc D XCL n0 ad0 A (some (.int rr)) n h) args s 0 0 A) n h 13 [] [.int s0] := by
  unfold D_T_isIn_13 at hE
  obtain ⟨hb1, hE⟩ := xchk_inv hE
  cases hE
  exact xi_zret hC hr (xzb_nar hb1) hlk d_T_isIn_13
set_option maxRecDepth 100000 in
set_option maxHeartbeats 4000000 in
theorem s_T_isIn_0 {p : Program} {l : Launch} {e : Env} {s : State} {m : MethodId} {args : Array Value} {below : List Frame} {meth : Method} {c : Code} {D : va_G} {A : Nat → Prop} {ad0 : Nat → Nat} {n0 : Nat} (hC : XC p s m args c c_T_isIn 2 y_T_isIn.cls XTs XCL XNW XAL D A) (hr : meth.sig.returnType = some .boolean) (hlk : meth.locks = false) (hnm : meth.name = y_T_isIn.name)   (x0 : Int32) (x1 : Int32) (n : Nat) (h : XH) (rr : Int32)  (hE : D_T_isIn_0  x0 x1 h = some rr) : XW p l e ({ frames := 0, cells := 0, slots := 0, locals := 0 } : Room) s m args below meth c 2 XCL D A ad0 n0 0 0 (MQ below (xQc D XCL n0 ad0 A (some (.int rr)) n h) args s 0 0 A) n h 0 [(0, .int x0), (1, .int x1)] [] := by
  unfold D_T_isIn_0 at hE
  refine xi_iload_n hC d_T_isIn_0 rfl 0 rfl ?_
  refine xi_iconst (v := (1 : Int32)) hC d_T_isIn_1 (by decide) ?_
  refine xi_iload_n hC d_T_isIn_2 rfl 1 rfl ?_
  refine xi_ishl hC d_T_isIn_3 ?_
  refine xi_iand hC d_T_isIn_4 ?_
  refine xi_if_eq (tgt := 12) hC d_T_isIn_5 (by decide) (fun hz1 => ?_) (fun hz1 => ?_)
  · rw [if_pos hz1] at hE
    refine xi_iconst (v := (0 : Int32)) hC d_T_isIn_12 (by decide) ?_
    refine xi_locs (lv' := []) [] rfl ?_
    exact s_T_isIn_13 hC hr hlk hnm _ _ _ _ hE
  · rw [if_neg hz1] at hE
    refine xi_iconst (v := (1 : Int32)) hC d_T_isIn_8 (by decide) ?_
    refine xi_goto (tgt := 13) hC d_T_isIn_9 (by decide) ?_
    refine xi_locs (lv' := []) [] rfl ?_
    exact s_T_isIn_13 hC hr hlk hnm _ _ _ _ hE
set_option maxRecDepth 100000 in
theorem x_T_isIn {l : Launch} {D : va_G} {x0 : Int32} {x1 : Int32} {n : Nat} {h : XH} {rr : Int32}  (hE : X_T_isIn x0 x1 h = some rr) : XMet l y_T_isIn c_T_isIn 2 (some .boolean) XTs XCL XNW XAL D ({ frames := 0, cells := 0, slots := 0, locals := 0 } : Room) 0 0 [.int x0, .int x1] n h (some (.int rr)) n h := by
  refine XMet.mk (by decide) xNW_good xTs_good (Nat.le_of_ble_eq_true rfl) ?_
  intro p e s m args below meth c A ad0 hC hr hlk hnm
  refine xi_locs (lv' := [(0, .int x0), (1, .int x1)]) [0, 1] rfl ?_
  exact s_T_isIn_0 hC hr hlk hnm _ _ n h _ hE

set_option maxRecDepth 100000 in
set_option maxHeartbeats 4000000 in
theorem s_G_wouldCloseRing_23 {p : Program} {l : Launch} {e : Env} {s : State} {m : MethodId} {args : Array Value} {below : List Frame} {meth : Method} {c : Code} {D : va_G} {A : Nat → Prop} {ad0 : Nat → Nat} {n0 : Nat} (hC : XC p s m args c c_G_wouldCloseRing 3 y_G_wouldCloseRing.cls XTs XCL XNW XAL D A) (hr : meth.sig.returnType = some .boolean) (hlk : meth.locks = false) (hnm : meth.name = y_G_wouldCloseRing.name)   (s0 : Int32) (n : Nat) (h : XH) (rr : Int32)  (hE : D_G_wouldCloseRing_23  s0 h = some rr) : XW p l e ({ frames := 1, cells := 0, slots := 0, locals := 21 } : Room) s m args below meth c 3 XCL D A ad0 n0 0 0 (MQ below (xQc D XCL n0 ad0 A (some (.int rr)) n h) args s 0 0 A) n h 23 [] [.int s0] := by
  unfold D_G_wouldCloseRing_23 at hE
  obtain ⟨hb1, hE⟩ := xchk_inv hE
  cases hE
  exact xi_zret hC hr (xzb_nar hb1) hlk d_G_wouldCloseRing_23
set_option maxRecDepth 100000 in
set_option maxHeartbeats 4000000 in
theorem s_G_wouldCloseRing_18 {p : Program} {l : Launch} {e : Env} {s : State} {m : MethodId} {args : Array Value} {below : List Frame} {meth : Method} {c : Code} {D : va_G} {A : Nat → Prop} {ad0 : Nat → Nat} {n0 : Nat} (hC : XC p s m args c c_G_wouldCloseRing 3 y_G_wouldCloseRing.cls XTs XCL XNW XAL D A) (hr : meth.sig.returnType = some .boolean) (hlk : meth.locks = false) (hnm : meth.name = y_G_wouldCloseRing.name)    (n : Nat) (h : XH) (rr : Int32)  (hE : D_G_wouldCloseRing_18   h = some rr) : XW p l e ({ frames := 1, cells := 0, slots := 0, locals := 21 } : Room) s m args below meth c 3 XCL D A ad0 n0 0 0 (MQ below (xQc D XCL n0 ad0 A (some (.int rr)) n h) args s 0 0 A) n h 18 [] [] := by
  unfold D_G_wouldCloseRing_18 at hE
  refine xi_iconst (v := (1 : Int32)) hC d_G_wouldCloseRing_18 (by decide) ?_
  refine xi_goto (tgt := 23) hC d_G_wouldCloseRing_19 (by decide) ?_
  refine xi_locs (lv' := []) [] rfl ?_
  exact s_G_wouldCloseRing_23 hC hr hlk hnm _ _ _ _ hE
set_option maxRecDepth 100000 in
set_option maxHeartbeats 4000000 in
theorem s_G_wouldCloseRing_0 {p : Program} {l : Launch} {e : Env} {s : State} {m : MethodId} {args : Array Value} {below : List Frame} {meth : Method} {c : Code} {D : va_G} {A : Nat → Prop} {ad0 : Nat → Nat} {n0 : Nat} (hC : XC p s m args c c_G_wouldCloseRing 3 y_G_wouldCloseRing.cls XTs XCL XNW XAL D A) (hr : meth.sig.returnType = some .boolean) (hlk : meth.locks = false) (hnm : meth.name = y_G_wouldCloseRing.name)   (r0 : Nat) (x1 : Int32) (x2 : Int32) (n : Nat) (h : XH) (rr : Int32)  (hE : D_G_wouldCloseRing_0  r0 x1 x2 h = some rr) : XW p l e ({ frames := 1, cells := 0, slots := 0, locals := 21 } : Room) s m args below meth c 3 XCL D A ad0 n0 0 0 (MQ below (xQc D XCL n0 ad0 A (some (.int rr)) n h) args s 0 0 A) n h 0 [(0, .ref r0), (1, .int x1), (2, .int x2)] [] := by
  unfold D_G_wouldCloseRing_0 at hE
  refine xi_iload_n hC d_G_wouldCloseRing_0 rfl 1 rfl ?_
  refine xi_iload_n hC d_G_wouldCloseRing_1 rfl 2 rfl ?_
  refine xi_icmp_eq (tgt := 18) hC d_G_wouldCloseRing_2 (by decide) (fun hz1 => ?_) (fun hz1 => ?_)
  · rw [if_pos hz1] at hE
    refine xi_locs (lv' := []) [] rfl ?_
    exact s_G_wouldCloseRing_18 hC hr hlk hnm _ _ _ hE
  · rw [if_neg hz1] at hE
    refine xi_aload_n hC d_G_wouldCloseRing_5 rfl 0 rfl ?_
    obtain ⟨q3, hE2, hE⟩ := xb1_inv hE
    refine xi_get (C := R_G) (T := T_G) (N := 5) (ci := 2) (k := 1) hC rfl iws_G (by decide) xt_11 (by decide) (xgR_inv hE2) d_G_wouldCloseRing_6 ?_
    refine xi_iload_n hC d_G_wouldCloseRing_9 rfl 1 rfl ?_
    obtain ⟨v4, hE5, hE⟩ := xb1_inv hE
    refine xi_iald hC hE5 d_G_wouldCloseRing_10 ?_
    refine xi_iload_n hC d_G_wouldCloseRing_11 rfl 2 rfl ?_
    obtain ⟨v6, hE7, hE⟩ := xb1_inv hE
    refine xi_callSN (as := [.int v4, .int x2]) (st := []) hC (x_T_isIn hE7) xn_1 xt_59 xt_47 xt_58 ⟨by decide, by decide, (by decide +kernel : (parseMethodDescriptor y_T_isIn.desc).map (fun d => d.parameters.length) = some 2)⟩ rfl rfl ⟨by decide, by decide⟩ ⟨by decide, by decide⟩ (Nat.le_of_ble_eq_true rfl) rfl d_G_wouldCloseRing_12 ?_
    refine xi_stk (st' := [.int v6]) rfl ?_
    refine xi_if_eq (tgt := 22) hC d_G_wouldCloseRing_15 (by decide) (fun hz8 => ?_) (fun hz8 => ?_)
    · rw [if_pos hz8] at hE
      refine xi_iconst (v := (0 : Int32)) hC d_G_wouldCloseRing_22 (by decide) ?_
      refine xi_locs (lv' := []) [] rfl ?_
      exact s_G_wouldCloseRing_23 hC hr hlk hnm _ _ _ _ hE
    · rw [if_neg hz8] at hE
      refine xi_locs (lv' := []) [] rfl ?_
      exact s_G_wouldCloseRing_18 hC hr hlk hnm _ _ _ hE
set_option maxRecDepth 100000 in
theorem x_G_wouldCloseRing {l : Launch} {D : va_G} {r0 : Nat} {x1 : Int32} {x2 : Int32} {n : Nat} {h : XH} {rr : Int32}  (hE : X_G_wouldCloseRing r0 x1 x2 h = some rr) : XMet l y_G_wouldCloseRing c_G_wouldCloseRing 3 (some .boolean) XTs XCL XNW XAL D ({ frames := 1, cells := 0, slots := 0, locals := 21 } : Room) 0 0 [.ref r0, .int x1, .int x2] n h (some (.int rr)) n h := by
  refine XMet.mk (by decide) xNW_good xTs_good (Nat.le_of_ble_eq_true rfl) ?_
  intro p e s m args below meth c A ad0 hC hr hlk hnm
  refine xi_locs (lv' := [(0, .ref r0), (1, .int x1), (2, .int x2)]) [0, 1, 2] rfl ?_
  exact s_G_wouldCloseRing_0 hC hr hlk hnm _ _ _ n h _ hE

set_option maxRecDepth 100000 in
set_option maxHeartbeats 4000000 in
theorem s_G_toldBeforeAny_27 {p : Program} {l : Launch} {e : Env} {s : State} {m : MethodId} {args : Array Value} {below : List Frame} {meth : Method} {c : Code} {D : va_G} {A : Nat → Prop} {ad0 : Nat → Nat} {n0 : Nat} (hC : XC p s m args c c_G_toldBeforeAny 4 y_G_toldBeforeAny.cls XTs XCL XNW XAL D A) (hr : meth.sig.returnType = some .int) (hlk : meth.locks = false) (hnm : meth.name = y_G_toldBeforeAny.name) {k4 : Nat → Int32 → Int32 → Int32 → XH → Option (Int32)} (n : Nat) (h : XH) (rr : Int32)  (hk4 : ∀ (r0 : Nat) (x1 : Int32) (x2 : Int32) (x3 : Int32), k4 r0 x1 x2 x3 h = some rr → XW p l e ({ frames := 1, cells := 0, slots := 0, locals := 21 } : Room) s m args below meth c 4 XCL D A ad0 n0 0 0 (MQ below (xQc D XCL n0 ad0 A (some (.int rr)) n h) args s 0 0 A) n h 4 [(0, .ref r0), (1, .int x1), (2, .int x2), (3, .int x3)] []) (r0 : Nat) (x1 : Int32) (x2 : Int32) (x3 : Int32)  (hE : D_G_toldBeforeAny_27 k4 r0 x1 x2 x3 h = some rr) : XW p l e ({ frames := 1, cells := 0, slots := 0, locals := 21 } : Room) s m args below meth c 4 XCL D A ad0 n0 0 0 (MQ below (xQc D XCL n0 ad0 A (some (.int rr)) n h) args s 0 0 A) n h 27 [(0, .ref r0), (1, .int x1), (2, .int x2), (3, .int x3)] [] := by
  unfold D_G_toldBeforeAny_27 at hE
  refine xi_iinc (v := x3 + 1) (lv' := [(3, .int (x3 + 1)), (0, .ref r0), (1, .int x1), (2, .int x2)]) hC d_G_toldBeforeAny_27 3 rfl rfl (by decide) rfl ?_
  refine xi_goto (tgt := 4) hC d_G_toldBeforeAny_30 (by decide) ?_
  refine xi_locs (lv' := [(0, .ref r0), (1, .int x1), (2, .int x2), (3, .int (x3 + 1))]) [1, 2, 3, 0] rfl ?_
  exact hk4 _ _ _ _ hE
set_option maxRecDepth 100000 in
set_option maxHeartbeats 4000000 in
theorem s_G_toldBeforeAny_4 {p : Program} {l : Launch} {e : Env} {s : State} {m : MethodId} {args : Array Value} {below : List Frame} {meth : Method} {c : Code} {D : va_G} {A : Nat → Prop} {ad0 : Nat → Nat} {n0 : Nat} (hC : XC p s m args c c_G_toldBeforeAny 4 y_G_toldBeforeAny.cls XTs XCL XNW XAL D A) (hr : meth.sig.returnType = some .int) (hlk : meth.locks = false) (hnm : meth.name = y_G_toldBeforeAny.name)   : ∀ (f : Nat) (r0 : Nat) (x1 : Int32) (x2 : Int32) (x3 : Int32) (n : Nat) (h : XH) (rr : Int32) , D_G_toldBeforeAny_4  f r0 x1 x2 x3 h = some rr → XW p l e ({ frames := 1, cells := 0, slots := 0, locals := 21 } : Room) s m args below meth c 4 XCL D A ad0 n0 0 0 (MQ below (xQc D XCL n0 ad0 A (some (.int rr)) n h) args s 0 0 A) n h 4 [(0, .ref r0), (1, .int x1), (2, .int x2), (3, .int x3)] [] := by
  intro f
  induction f with
  | zero =>
    intro r0 x1 x2 x3 n h rr hE
    exact absurd hE (by simp [D_G_toldBeforeAny_4])
  | succ fu ih =>
    intro r0 x1 x2 x3 n h rr hE
    simp only [D_G_toldBeforeAny_4] at hE
    refine xi_iload_n hC d_G_toldBeforeAny_4 rfl 3 rfl ?_
    refine xi_bipush (v := (24 : Int32)) hC d_G_toldBeforeAny_5 (by decide) ?_
    refine xi_icmp_gt (tgt := 33) hC d_G_toldBeforeAny_7 (by decide) (fun hz1 => ?_) (fun hz1 => ?_)
    · rw [if_pos hz1] at hE
      refine xi_iload_n hC d_G_toldBeforeAny_33 rfl 2 rfl ?_
      cases hE
      exact xi_iret hC hr hlk d_G_toldBeforeAny_34
    · rw [if_neg hz1] at hE
      refine xi_iload_n hC d_G_toldBeforeAny_10 rfl 1 rfl ?_
      refine xi_iload_n hC d_G_toldBeforeAny_11 rfl 3 rfl ?_
      obtain ⟨v2, hE3, hE⟩ := xb1_inv hE
      refine xi_callSN (as := [.int x1, .int x3]) (st := []) hC (x_T_isIn hE3) xn_1 xt_59 xt_47 xt_58 ⟨by decide, by decide, (by decide +kernel : (parseMethodDescriptor y_T_isIn.desc).map (fun d => d.parameters.length) = some 2)⟩ rfl rfl ⟨by decide, by decide⟩ ⟨by decide, by decide⟩ (Nat.le_of_ble_eq_true rfl) rfl d_G_toldBeforeAny_12 ?_
      refine xi_stk (st' := [.int v2]) rfl ?_
      refine xi_if_eq (tgt := 27) hC d_G_toldBeforeAny_15 (by decide) (fun hz4 => ?_) (fun hz4 => ?_)
      · rw [if_pos hz4] at hE
        refine xi_locs (lv' := [(0, .ref r0), (1, .int x1), (2, .int x2), (3, .int x3)]) [0, 1, 2, 3] rfl ?_
        exact s_G_toldBeforeAny_27 hC hr hlk hnm _ _ _ (fun y0 y1 y2 y3 z => ih y0 y1 y2 y3 _ _ _ z) _ _ _ _ hE
      · rw [if_neg hz4] at hE
        refine xi_iload_n hC d_G_toldBeforeAny_18 rfl 2 rfl ?_
        refine xi_aload_n hC d_G_toldBeforeAny_19 rfl 0 rfl ?_
        obtain ⟨q6, hE5, hE⟩ := xb1_inv hE
        refine xi_get (C := R_G) (T := T_G) (N := 5) (ci := 2) (k := 0) hC rfl iws_G (by decide) xt_10 (by decide) (xgR_inv hE5) d_G_toldBeforeAny_20 ?_
        refine xi_iload_n hC d_G_toldBeforeAny_23 rfl 3 rfl ?_
        obtain ⟨v7, hE8, hE⟩ := xb1_inv hE
        refine xi_iald hC hE8 d_G_toldBeforeAny_24 ?_
        refine xi_ior hC d_G_toldBeforeAny_25 ?_
        refine xi_istore_n (lv' := [(2, .int (x2 ||| v7)), (0, .ref r0), (1, .int x1), (3, .int x3)]) hC d_G_toldBeforeAny_26 rfl (by decide) rfl ?_
        refine xi_locs (lv' := [(0, .ref r0), (1, .int x1), (2, .int (x2 ||| v7)), (3, .int x3)]) [1, 2, 0, 3] rfl ?_
        exact s_G_toldBeforeAny_27 hC hr hlk hnm _ _ _ (fun y0 y1 y2 y3 z => ih y0 y1 y2 y3 _ _ _ z) _ _ _ _ hE
set_option maxRecDepth 100000 in
set_option maxHeartbeats 4000000 in
theorem s_G_toldBeforeAny_0 {p : Program} {l : Launch} {e : Env} {s : State} {m : MethodId} {args : Array Value} {below : List Frame} {meth : Method} {c : Code} {D : va_G} {A : Nat → Prop} {ad0 : Nat → Nat} {n0 : Nat} (hC : XC p s m args c c_G_toldBeforeAny 4 y_G_toldBeforeAny.cls XTs XCL XNW XAL D A) (hr : meth.sig.returnType = some .int) (hlk : meth.locks = false) (hnm : meth.name = y_G_toldBeforeAny.name)   (r0 : Nat) (x1 : Int32) (n : Nat) (h : XH) (rr : Int32)  (hE : D_G_toldBeforeAny_0  r0 x1 h = some rr) : XW p l e ({ frames := 1, cells := 0, slots := 0, locals := 21 } : Room) s m args below meth c 4 XCL D A ad0 n0 0 0 (MQ below (xQc D XCL n0 ad0 A (some (.int rr)) n h) args s 0 0 A) n h 0 [(0, .ref r0), (1, .int x1)] [] := by
  unfold D_G_toldBeforeAny_0 at hE
  refine xi_iconst (v := (0 : Int32)) hC d_G_toldBeforeAny_0 (by decide) ?_
  refine xi_istore_n (lv' := [(2, .int (0 : Int32)), (0, .ref r0), (1, .int x1)]) hC d_G_toldBeforeAny_1 rfl (by decide) rfl ?_
  refine xi_iconst (v := (1 : Int32)) hC d_G_toldBeforeAny_2 (by decide) ?_
  refine xi_istore_n (lv' := [(3, .int (1 : Int32)), (2, .int (0 : Int32)), (0, .ref r0), (1, .int x1)]) hC d_G_toldBeforeAny_3 rfl (by decide) rfl ?_
  refine xi_locs (lv' := [(0, .ref r0), (1, .int x1), (2, .int (0 : Int32)), (3, .int (1 : Int32))]) [2, 3, 1, 0] rfl ?_
  exact s_G_toldBeforeAny_4 hC hr hlk hnm 5000 _ _ _ _ _ _ _ hE
set_option maxRecDepth 100000 in
theorem x_G_toldBeforeAny {l : Launch} {D : va_G} {r0 : Nat} {x1 : Int32} {n : Nat} {h : XH} {rr : Int32}  (hE : X_G_toldBeforeAny r0 x1 h = some rr) : XMet l y_G_toldBeforeAny c_G_toldBeforeAny 4 (some .int) XTs XCL XNW XAL D ({ frames := 1, cells := 0, slots := 0, locals := 21 } : Room) 0 0 [.ref r0, .int x1] n h (some (.int rr)) n h := by
  refine XMet.mk (by decide) xNW_good xTs_good (Nat.le_of_ble_eq_true rfl) ?_
  intro p e s m args below meth c A ad0 hC hr hlk hnm
  refine xi_locs (lv' := [(0, .ref r0), (1, .int x1)]) [0, 1] rfl ?_
  exact s_G_toldBeforeAny_0 hC hr hlk hnm _ _ n h _ hE

set_option maxRecDepth 100000 in
set_option maxHeartbeats 4000000 in
theorem s_G_layersFrom_59 {p : Program} {l : Launch} {e : Env} {s : State} {m : MethodId} {args : Array Value} {below : List Frame} {meth : Method} {c : Code} {D : va_G} {A : Nat → Prop} {ad0 : Nat → Nat} {n0 : Nat} (hC : XC p s m args c c_G_layersFrom 4 y_G_layersFrom.cls XTs XCL XNW XAL D A) (hr : meth.sig.returnType = some .int) (hlk : meth.locks = false) (hnm : meth.name = y_G_layersFrom.name)   (x3 : Int32) (n : Nat) (h : XH) (rr : Int32) (h' : XH) (hE : D_G_layersFrom_59  x3 h = some (rr, h')) : XW p l e ({ frames := 2, cells := 0, slots := 0, locals := 44 } : Room) s m args below meth c 4 XCL D A ad0 n0 0 0 (MQ below (xQc D XCL n0 ad0 A (some (.int rr)) n h') args s 0 0 A) n h 59 [(3, .int x3)] [] := by
  unfold D_G_layersFrom_59 at hE
  refine xi_iload_n hC d_G_layersFrom_59 rfl 0 rfl ?_
  cases hE
  exact xi_iret hC hr hlk d_G_layersFrom_60
set_option maxRecDepth 100000 in
set_option maxHeartbeats 4000000 in
theorem s_G_layersFrom_11 {p : Program} {l : Launch} {e : Env} {s : State} {m : MethodId} {args : Array Value} {below : List Frame} {meth : Method} {c : Code} {D : va_G} {A : Nat → Prop} {ad0 : Nat → Nat} {n0 : Nat} (hC : XC p s m args c c_G_layersFrom 4 y_G_layersFrom.cls XTs XCL XNW XAL D A) (hr : meth.sig.returnType = some .int) (hlk : meth.locks = false) (hnm : meth.name = y_G_layersFrom.name)   : ∀ (f : Nat) (r0 : Nat) (x2 : Int32) (x3 : Int32) (n : Nat) (h : XH) (rr : Int32) (h' : XH), D_G_layersFrom_11  f r0 x2 x3 h = some (rr, h') → XW p l e ({ frames := 2, cells := 0, slots := 0, locals := 44 } : Room) s m args below meth c 4 XCL D A ad0 n0 0 0 (MQ below (xQc D XCL n0 ad0 A (some (.int rr)) n h') args s 0 0 A) n h 11 [(0, .ref r0), (2, .int x2), (3, .int x3)] [] := by
  intro f
  induction f with
  | zero =>
    intro r0 x2 x3 n h rr h' hE
    exact absurd hE (by simp [D_G_layersFrom_11])
  | succ fu ih =>
    intro r0 x2 x3 n h rr h' hE
    simp only [D_G_layersFrom_11] at hE
    refine xi_iload_n hC d_G_layersFrom_11 rfl 2 rfl ?_
    refine xi_aload_n hC d_G_layersFrom_12 rfl 0 rfl ?_
    obtain ⟨q2, hE1, hE⟩ := xb1_inv hE
    refine xi_get (C := R_G) (T := T_G) (N := 5) (ci := 2) (k := 2) hC rfl iws_G (by decide) xt_12 (by decide) (xgR_inv hE1) d_G_layersFrom_13 ?_
    obtain ⟨v3, hE4, hE⟩ := xb1_inv hE
    refine xi_alen hC hE4 d_G_layersFrom_16 ?_
    refine xi_iconst (v := (1 : Int32)) hC d_G_layersFrom_17 (by decide) ?_
    refine xi_isub hC d_G_layersFrom_18 ?_
    refine xi_icmp_ge (tgt := 59) hC d_G_layersFrom_19 (by decide) (fun hz5 => ?_) (fun hz5 => ?_)
    · rw [if_pos hz5] at hE
      refine xi_locs (lv' := [(3, .int x3)]) [2] rfl ?_
      exact s_G_layersFrom_59 hC hr hlk hnm _ _ _ _ _ hE
    · rw [if_neg hz5] at hE
      refine xi_aload_n hC d_G_layersFrom_22 rfl 0 rfl ?_
      obtain ⟨q7, hE6, hE⟩ := xb1_inv hE
      refine xi_get (C := R_G) (T := T_G) (N := 5) (ci := 2) (k := 2) hC rfl iws_G (by decide) xt_12 (by decide) (xgR_inv hE6) d_G_layersFrom_23 ?_
      refine xi_iload_n hC d_G_layersFrom_26 rfl 2 rfl ?_
      obtain ⟨v8, hE9, hE⟩ := xb1_inv hE
      refine xi_iald hC hE9 d_G_layersFrom_27 ?_
      refine xi_iload_n hC d_G_layersFrom_28 rfl 1 rfl ?_
      obtain ⟨v10, hE11, hE⟩ := xb1_inv hE
      refine xi_callSN (as := [.int v8, .int x2]) (st := []) hC (x_T_isIn hE11) xn_1 xt_59 xt_47 xt_58 ⟨by decide, by decide, (by decide +kernel : (parseMethodDescriptor y_T_isIn.desc).map (fun d => d.parameters.length) = some 2)⟩ rfl rfl ⟨by decide, by decide⟩ ⟨by decide, by decide⟩ (Nat.le_of_ble_eq_true rfl) rfl d_G_layersFrom_29 ?_
      refine xi_stk (st' := [.int v10]) rfl ?_
      refine xi_if_ne (tgt := 59) hC d_G_layersFrom_32 (by decide) (fun hz12 => ?_) (fun hz12 => ?_)
      · rw [if_neg hz12] at hE
        refine xi_locs (lv' := [(3, .int x3)]) [2] rfl ?_
        exact s_G_layersFrom_59 hC hr hlk hnm _ _ _ _ _ hE
      · rw [if_pos hz12] at hE
        refine xi_aload_n hC d_G_layersFrom_35 rfl 0 rfl ?_
        obtain ⟨q14, hE13, hE⟩ := xb1_inv hE
        refine xi_get (C := R_G) (T := T_G) (N := 5) (ci := 2) (k := 2) hC rfl iws_G (by decide) xt_12 (by decide) (xgR_inv hE13) d_G_layersFrom_36 ?_
        refine xi_iload_n hC d_G_layersFrom_39 rfl 2 rfl ?_
        refine xi_iconst (v := (1 : Int32)) hC d_G_layersFrom_40 (by decide) ?_
        refine xi_iadd hC d_G_layersFrom_41 ?_
        refine xi_aload_n hC d_G_layersFrom_42 rfl 0 rfl ?_
        refine xi_aload_n hC d_G_layersFrom_43 rfl 0 rfl ?_
        obtain ⟨q16, hE15, hE⟩ := xb1_inv hE
        refine xi_get (C := R_G) (T := T_G) (N := 5) (ci := 2) (k := 2) hC rfl iws_G (by decide) xt_12 (by decide) (xgR_inv hE15) d_G_layersFrom_44 ?_
        refine xi_iload_n hC d_G_layersFrom_47 rfl 2 rfl ?_
        obtain ⟨v17, hE18, hE⟩ := xb1_inv hE
        refine xi_iald hC hE18 d_G_layersFrom_48 ?_
        obtain ⟨hI21, hE⟩ := xchk_inv hE
        obtain ⟨v19, hE20, hE⟩ := xb1_inv hE
        refine xi_callV (as := [.int v17]) (st := [.int (x3 + (1 : Int32)), .ref q14]) (C := R_G) (T := T_G) (N := 5) hC (x_G_toldBeforeAny hE20) rfl (by decide) hI21 xt_61 xt_62 xt_63 xt_30 xt_60 ⟨by decide, by decide, (by decide +kernel : (parseMethodDescriptor y_G_toldBeforeAny.desc).map (fun d => d.parameters.length) = some 1)⟩ rfl rfl ⟨by decide, by decide⟩ ⟨by decide, by decide⟩ (Nat.le_of_ble_eq_true rfl) rfl d_G_layersFrom_49 ?_
        refine xi_stk (st' := [.int v19, .int (x3 + (1 : Int32)), .ref q14]) rfl ?_
        obtain ⟨h22, hE23, hE⟩ := xb1_inv hE
        refine xi_iast hC hE23 d_G_layersFrom_52 ?_
        refine xi_iinc (v := x3 + 1) (lv' := [(3, .int (x3 + 1)), (0, .ref r0), (2, .int x2)]) hC d_G_layersFrom_53 2 rfl rfl (by decide) rfl ?_
        refine xi_goto (tgt := 11) hC d_G_layersFrom_56 (by decide) ?_
        refine xi_locs (lv' := [(0, .ref r0), (2, .int x2), (3, .int (x3 + 1))]) [1, 2, 0] rfl ?_
        exact ih _ _ _ _ _ _ _ hE
set_option maxRecDepth 100000 in
set_option maxHeartbeats 4000000 in
theorem s_G_layersFrom_0 {p : Program} {l : Launch} {e : Env} {s : State} {m : MethodId} {args : Array Value} {below : List Frame} {meth : Method} {c : Code} {D : va_G} {A : Nat → Prop} {ad0 : Nat → Nat} {n0 : Nat} (hC : XC p s m args c c_G_layersFrom 4 y_G_layersFrom.cls XTs XCL XNW XAL D A) (hr : meth.sig.returnType = some .int) (hlk : meth.locks = false) (hnm : meth.name = y_G_layersFrom.name)   (r0 : Nat) (x1 : Int32) (x2 : Int32) (n : Nat) (h : XH) (rr : Int32) (h' : XH) (hE : D_G_layersFrom_0  r0 x1 x2 h = some (rr, h')) : XW p l e ({ frames := 2, cells := 0, slots := 0, locals := 44 } : Room) s m args below meth c 4 XCL D A ad0 n0 0 0 (MQ below (xQc D XCL n0 ad0 A (some (.int rr)) n h') args s 0 0 A) n h 0 [(0, .ref r0), (1, .int x1), (2, .int x2)] [] := by
  unfold D_G_layersFrom_0 at hE
  refine xi_aload_n hC d_G_layersFrom_0 rfl 0 rfl ?_
  obtain ⟨q2, hE1, hE⟩ := xb1_inv hE
  refine xi_get (C := R_G) (T := T_G) (N := 5) (ci := 2) (k := 2) hC rfl iws_G (by decide) xt_12 (by decide) (xgR_inv hE1) d_G_layersFrom_1 ?_
  refine xi_iconst (v := (0 : Int32)) hC d_G_layersFrom_4 (by decide) ?_
  refine xi_iconst (v := (1 : Int32)) hC d_G_layersFrom_5 (by decide) ?_
  refine xi_iload_n hC d_G_layersFrom_6 rfl 1 rfl ?_
  refine xi_ishl hC d_G_layersFrom_7 ?_
  obtain ⟨h3, hE4, hE⟩ := xb1_inv hE
  refine xi_iast hC hE4 d_G_layersFrom_8 ?_
  refine xi_iconst (v := (0 : Int32)) hC d_G_layersFrom_9 (by decide) ?_
  refine xi_istore_n (lv' := [(3, .int (0 : Int32)), (0, .ref r0), (1, .int x1), (2, .int x2)]) hC d_G_layersFrom_10 rfl (by decide) rfl ?_
  refine xi_locs (lv' := [(0, .ref r0), (2, .int x2), (3, .int (0 : Int32))]) [1, 3, 0] rfl ?_
  exact s_G_layersFrom_11 hC hr hlk hnm 5000 _ _ _ _ _ _ _ hE
set_option maxRecDepth 100000 in
theorem x_G_layersFrom {l : Launch} {D : va_G} {r0 : Nat} {x1 : Int32} {x2 : Int32} {n : Nat} {h : XH} {rr : Int32} {h' : XH} (hE : X_G_layersFrom r0 x1 x2 h = some (rr, h')) : XMet l y_G_layersFrom c_G_layersFrom 4 (some .int) XTs XCL XNW XAL D ({ frames := 2, cells := 0, slots := 0, locals := 44 } : Room) 0 0 [.ref r0, .int x1, .int x2] n h (some (.int rr)) n h' := by
  refine XMet.mk (by decide) xNW_good xTs_good (Nat.le_of_ble_eq_true rfl) ?_
  intro p e s m args below meth c A ad0 hC hr hlk hnm
  refine xi_locs (lv' := [(0, .ref r0), (1, .int x1), (2, .int x2)]) [0, 1, 2] rfl ?_
  exact s_G_layersFrom_0 hC hr hlk hnm _ _ _ n h _ _ hE

set_option maxRecDepth 100000 in
set_option maxHeartbeats 4000000 in
theorem s_G_leastBehind_31 {p : Program} {l : Launch} {e : Env} {s : State} {m : MethodId} {args : Array Value} {below : List Frame} {meth : Method} {c : Code} {D : va_G} {A : Nat → Prop} {ad0 : Nat → Nat} {n0 : Nat} (hC : XC p s m args c c_G_leastBehind 4 y_G_leastBehind.cls XTs XCL XNW XAL D A) (hr : meth.sig.returnType = some .int) (hlk : meth.locks = false) (hnm : meth.name = y_G_leastBehind.name) {k2 : Nat → Int32 → Int32 → Int32 → XH → Option (Int32)} (n : Nat) (h : XH) (rr : Int32)  (hk2 : ∀ (r0 : Nat) (x1 : Int32) (x2 : Int32) (x3 : Int32), k2 r0 x1 x2 x3 h = some rr → XW p l e ({ frames := 1, cells := 0, slots := 0, locals := 21 } : Room) s m args below meth c 4 XCL D A ad0 n0 0 0 (MQ below (xQc D XCL n0 ad0 A (some (.int rr)) n h) args s 0 0 A) n h 2 [(0, .ref r0), (1, .int x1), (2, .int x2), (3, .int x3)] []) (r0 : Nat) (x1 : Int32) (x2 : Int32) (x3 : Int32)  (hE : D_G_leastBehind_31 k2 r0 x1 x2 x3 h = some rr) : XW p l e ({ frames := 1, cells := 0, slots := 0, locals := 21 } : Room) s m args below meth c 4 XCL D A ad0 n0 0 0 (MQ below (xQc D XCL n0 ad0 A (some (.int rr)) n h) args s 0 0 A) n h 31 [(0, .ref r0), (1, .int x1), (2, .int x2), (3, .int x3)] [] := by
  unfold D_G_leastBehind_31 at hE
  refine xi_iinc (v := x3 + 1) (lv' := [(3, .int (x3 + 1)), (0, .ref r0), (1, .int x1), (2, .int x2)]) hC d_G_leastBehind_31 3 rfl rfl (by decide) rfl ?_
  refine xi_goto (tgt := 2) hC d_G_leastBehind_34 (by decide) ?_
  refine xi_locs (lv' := [(0, .ref r0), (1, .int x1), (2, .int x2), (3, .int (x3 + 1))]) [1, 2, 3, 0] rfl ?_
  exact hk2 _ _ _ _ hE
set_option maxRecDepth 100000 in
set_option maxHeartbeats 4000000 in
theorem s_G_leastBehind_2 {p : Program} {l : Launch} {e : Env} {s : State} {m : MethodId} {args : Array Value} {below : List Frame} {meth : Method} {c : Code} {D : va_G} {A : Nat → Prop} {ad0 : Nat → Nat} {n0 : Nat} (hC : XC p s m args c c_G_leastBehind 4 y_G_leastBehind.cls XTs XCL XNW XAL D A) (hr : meth.sig.returnType = some .int) (hlk : meth.locks = false) (hnm : meth.name = y_G_leastBehind.name)   : ∀ (f : Nat) (r0 : Nat) (x1 : Int32) (x2 : Int32) (x3 : Int32) (n : Nat) (h : XH) (rr : Int32) , D_G_leastBehind_2  f r0 x1 x2 x3 h = some rr → XW p l e ({ frames := 1, cells := 0, slots := 0, locals := 21 } : Room) s m args below meth c 4 XCL D A ad0 n0 0 0 (MQ below (xQc D XCL n0 ad0 A (some (.int rr)) n h) args s 0 0 A) n h 2 [(0, .ref r0), (1, .int x1), (2, .int x2), (3, .int x3)] [] := by
  intro f
  induction f with
  | zero =>
    intro r0 x1 x2 x3 n h rr hE
    exact absurd hE (by simp [D_G_leastBehind_2])
  | succ fu ih =>
    intro r0 x1 x2 x3 n h rr hE
    simp only [D_G_leastBehind_2] at hE
    refine xi_iload_n hC d_G_leastBehind_2 rfl 3 rfl ?_
    refine xi_bipush (v := (24 : Int32)) hC d_G_leastBehind_3 (by decide) ?_
    refine xi_icmp_gt (tgt := 37) hC d_G_leastBehind_5 (by decide) (fun hz1 => ?_) (fun hz1 => ?_)
    · rw [if_pos hz1] at hE
      refine xi_iconst (v := (0 : Int32)) hC d_G_leastBehind_37 (by decide) ?_
      cases hE
      exact xi_iret hC hr hlk d_G_leastBehind_38
    · rw [if_neg hz1] at hE
      refine xi_iload_n hC d_G_leastBehind_8 rfl 2 rfl ?_
      refine xi_iload_n hC d_G_leastBehind_9 rfl 3 rfl ?_
      obtain ⟨v2, hE3, hE⟩ := xb1_inv hE
      refine xi_callSN (as := [.int x2, .int x3]) (st := []) hC (x_T_isIn hE3) xn_1 xt_59 xt_47 xt_58 ⟨by decide, by decide, (by decide +kernel : (parseMethodDescriptor y_T_isIn.desc).map (fun d => d.parameters.length) = some 2)⟩ rfl rfl ⟨by decide, by decide⟩ ⟨by decide, by decide⟩ (Nat.le_of_ble_eq_true rfl) rfl d_G_leastBehind_10 ?_
      refine xi_stk (st' := [.int v2]) rfl ?_
      refine xi_if_eq (tgt := 31) hC d_G_leastBehind_13 (by decide) (fun hz4 => ?_) (fun hz4 => ?_)
      · rw [if_pos hz4] at hE
        refine xi_locs (lv' := [(0, .ref r0), (1, .int x1), (2, .int x2), (3, .int x3)]) [0, 1, 2, 3] rfl ?_
        exact s_G_leastBehind_31 hC hr hlk hnm _ _ _ (fun y0 y1 y2 y3 z => ih y0 y1 y2 y3 _ _ _ z) _ _ _ _ hE
      · rw [if_neg hz4] at hE
        refine xi_aload_n hC d_G_leastBehind_16 rfl 0 rfl ?_
        obtain ⟨q6, hE5, hE⟩ := xb1_inv hE
        refine xi_get (C := R_G) (T := T_G) (N := 5) (ci := 2) (k := 0) hC rfl iws_G (by decide) xt_10 (by decide) (xgR_inv hE5) d_G_leastBehind_17 ?_
        refine xi_iload_n hC d_G_leastBehind_20 rfl 3 rfl ?_
        obtain ⟨v7, hE8, hE⟩ := xb1_inv hE
        refine xi_iald hC hE8 d_G_leastBehind_21 ?_
        refine xi_iload_n hC d_G_leastBehind_22 rfl 1 rfl ?_
        obtain ⟨v9, hE10, hE⟩ := xb1_inv hE
        refine xi_callSN (as := [.int v7, .int x1]) (st := []) hC (x_T_isIn hE10) xn_1 xt_59 xt_47 xt_58 ⟨by decide, by decide, (by decide +kernel : (parseMethodDescriptor y_T_isIn.desc).map (fun d => d.parameters.length) = some 2)⟩ rfl rfl ⟨by decide, by decide⟩ ⟨by decide, by decide⟩ (Nat.le_of_ble_eq_true rfl) rfl d_G_leastBehind_23 ?_
        refine xi_stk (st' := [.int v9]) rfl ?_
        refine xi_if_eq (tgt := 31) hC d_G_leastBehind_26 (by decide) (fun hz11 => ?_) (fun hz11 => ?_)
        · rw [if_pos hz11] at hE
          refine xi_locs (lv' := [(0, .ref r0), (1, .int x1), (2, .int x2), (3, .int x3)]) [0, 1, 2, 3] rfl ?_
          exact s_G_leastBehind_31 hC hr hlk hnm _ _ _ (fun y0 y1 y2 y3 z => ih y0 y1 y2 y3 _ _ _ z) _ _ _ _ hE
        · rw [if_neg hz11] at hE
          refine xi_iload_n hC d_G_leastBehind_29 rfl 3 rfl ?_
          cases hE
          exact xi_iret hC hr hlk d_G_leastBehind_30
set_option maxRecDepth 100000 in
set_option maxHeartbeats 4000000 in
theorem s_G_leastBehind_0 {p : Program} {l : Launch} {e : Env} {s : State} {m : MethodId} {args : Array Value} {below : List Frame} {meth : Method} {c : Code} {D : va_G} {A : Nat → Prop} {ad0 : Nat → Nat} {n0 : Nat} (hC : XC p s m args c c_G_leastBehind 4 y_G_leastBehind.cls XTs XCL XNW XAL D A) (hr : meth.sig.returnType = some .int) (hlk : meth.locks = false) (hnm : meth.name = y_G_leastBehind.name)   (r0 : Nat) (x1 : Int32) (x2 : Int32) (n : Nat) (h : XH) (rr : Int32)  (hE : D_G_leastBehind_0  r0 x1 x2 h = some rr) : XW p l e ({ frames := 1, cells := 0, slots := 0, locals := 21 } : Room) s m args below meth c 4 XCL D A ad0 n0 0 0 (MQ below (xQc D XCL n0 ad0 A (some (.int rr)) n h) args s 0 0 A) n h 0 [(0, .ref r0), (1, .int x1), (2, .int x2)] [] := by
  unfold D_G_leastBehind_0 at hE
  refine xi_iconst (v := (1 : Int32)) hC d_G_leastBehind_0 (by decide) ?_
  refine xi_istore_n (lv' := [(3, .int (1 : Int32)), (0, .ref r0), (1, .int x1), (2, .int x2)]) hC d_G_leastBehind_1 rfl (by decide) rfl ?_
  refine xi_locs (lv' := [(0, .ref r0), (1, .int x1), (2, .int x2), (3, .int (1 : Int32))]) [1, 2, 3, 0] rfl ?_
  exact s_G_leastBehind_2 hC hr hlk hnm 5000 _ _ _ _ _ _ _ hE
set_option maxRecDepth 100000 in
theorem x_G_leastBehind {l : Launch} {D : va_G} {r0 : Nat} {x1 : Int32} {x2 : Int32} {n : Nat} {h : XH} {rr : Int32}  (hE : X_G_leastBehind r0 x1 x2 h = some rr) : XMet l y_G_leastBehind c_G_leastBehind 4 (some .int) XTs XCL XNW XAL D ({ frames := 1, cells := 0, slots := 0, locals := 21 } : Room) 0 0 [.ref r0, .int x1, .int x2] n h (some (.int rr)) n h := by
  refine XMet.mk (by decide) xNW_good xTs_good (Nat.le_of_ble_eq_true rfl) ?_
  intro p e s m args below meth c A ad0 hC hr hlk hnm
  refine xi_locs (lv' := [(0, .ref r0), (1, .int x1), (2, .int x2)]) [0, 1, 2] rfl ?_
  exact s_G_leastBehind_0 hC hr hlk hnm _ _ _ n h _ hE

set_option maxRecDepth 100000 in
set_option maxHeartbeats 4000000 in
theorem s_G_tellRing_17 {p : Program} {l : Launch} {e : Env} {s : State} {m : MethodId} {args : Array Value} {below : List Frame} {meth : Method} {c : Code} {D : va_G} {A : Nat → Prop} {ad0 : Nat → Nat} {n0 : Nat} (hC : XC p s m args c c_G_tellRing 5 y_G_tellRing.cls XTs XCL XNW XAL D A) (hr : meth.sig.returnType = none) (hlk : meth.locks = false) (hnm : meth.name = y_G_tellRing.name)   : ∀ (f : Nat) (r0 : Nat) (x3 : Int32) (x4 : Int32) (n : Nat) (h : XH) (h' : XH), D_G_tellRing_17  f r0 x3 x4 h = some h' → XW p l e ({ frames := 3, cells := 0, slots := 0, locals := 67 } : Room) s m args below meth c 5 XCL D A ad0 n0 0 0 (MQ below (xQc D XCL n0 ad0 A none n h') args s 0 0 A) n h 17 [(0, .ref r0), (3, .int x3), (4, .int x4)] [] := by
  intro f
  induction f with
  | zero =>
    intro r0 x3 x4 n h h' hE
    exact absurd hE (by simp [D_G_tellRing_17])
  | succ fu ih =>
    intro r0 x3 x4 n h h' hE
    simp only [D_G_tellRing_17] at hE
    refine xi_iload hC d_G_tellRing_17 2 rfl ?_
    refine xi_iload_n hC d_G_tellRing_19 rfl 1 rfl ?_
    refine xi_icmp_gt (tgt := 58) hC d_G_tellRing_20 (by decide) (fun hz1 => ?_) (fun hz1 => ?_)
    · rw [if_pos hz1] at hE
      refine xi_aload_n hC d_G_tellRing_58 rfl 0 rfl ?_
      refine xi_iload_n hC d_G_tellRing_59 rfl 1 rfl ?_
      refine xi_iconst (v := (1 : Int32)) hC d_G_tellRing_60 (by decide) ?_
      refine xi_iadd hC d_G_tellRing_61 ?_
      obtain ⟨h2, hE3, hE⟩ := xb1_inv hE
      refine xi_put (C := R_G) (T := T_G) (N := 5) (ci := 2) (k := 4) hC ty_G rfl iws_G tok_G nok_G (by decide) xt_64 (by decide) rfl (fun _ => rfl) (fun _ => rfl) hE3 d_G_tellRing_62 ?_
      cases hE
      exact xi_vret hC hr hlk d_G_tellRing_65
    · rw [if_neg hz1] at hE
      refine xi_aload_n hC d_G_tellRing_23 rfl 0 rfl ?_
      obtain ⟨q5, hE4, hE⟩ := xb1_inv hE
      refine xi_get (C := R_G) (T := T_G) (N := 5) (ci := 2) (k := 3) hC rfl iws_G (by decide) xt_13 (by decide) (xgR_inv hE4) d_G_tellRing_24 ?_
      refine xi_iload hC d_G_tellRing_27 2 rfl ?_
      refine xi_aload_n hC d_G_tellRing_29 rfl 0 rfl ?_
      refine xi_aload_n hC d_G_tellRing_30 rfl 0 rfl ?_
      obtain ⟨q7, hE6, hE⟩ := xb1_inv hE
      refine xi_get (C := R_G) (T := T_G) (N := 5) (ci := 2) (k := 3) hC rfl iws_G (by decide) xt_13 (by decide) (xgR_inv hE6) d_G_tellRing_31 ?_
      refine xi_iload hC d_G_tellRing_34 2 rfl ?_
      refine xi_iconst (v := (1 : Int32)) hC d_G_tellRing_36 (by decide) ?_
      refine xi_isub hC d_G_tellRing_37 ?_
      obtain ⟨v8, hE9, hE⟩ := xb1_inv hE
      refine xi_iald hC hE9 d_G_tellRing_38 ?_
      refine xi_aload_n hC d_G_tellRing_39 rfl 0 rfl ?_
      obtain ⟨q11, hE10, hE⟩ := xb1_inv hE
      refine xi_get (C := R_G) (T := T_G) (N := 5) (ci := 2) (k := 2) hC rfl iws_G (by decide) xt_12 (by decide) (xgR_inv hE10) d_G_tellRing_40 ?_
      refine xi_iload_n hC d_G_tellRing_43 rfl 1 rfl ?_
      refine xi_iload hC d_G_tellRing_44 2 rfl ?_
      refine xi_isub hC d_G_tellRing_46 ?_
      obtain ⟨v12, hE13, hE⟩ := xb1_inv hE
      refine xi_iald hC hE13 d_G_tellRing_47 ?_
      obtain ⟨hI16, hE⟩ := xchk_inv hE
      obtain ⟨v14, hE15, hE⟩ := xb1_inv hE
      refine xi_callV (as := [.int v8, .int v12]) (st := [.int x4, .ref q5]) (C := R_G) (T := T_G) (N := 5) hC (x_G_leastBehind hE15) rfl (by decide) hI16 xt_66 xt_67 xt_68 xt_30 xt_65 ⟨by decide, by decide, (by decide +kernel : (parseMethodDescriptor y_G_leastBehind.desc).map (fun d => d.parameters.length) = some 2)⟩ rfl rfl ⟨by decide, by decide⟩ ⟨by decide, by decide⟩ (Nat.le_of_ble_eq_true rfl) rfl d_G_tellRing_48 ?_
      refine xi_stk (st' := [.int v14, .int x4, .ref q5]) rfl ?_
      obtain ⟨h17, hE18, hE⟩ := xb1_inv hE
      refine xi_iast hC hE18 d_G_tellRing_51 ?_
      refine xi_iinc (v := x4 + 1) (lv' := [(4, .int (x4 + 1)), (0, .ref r0), (3, .int x3)]) hC d_G_tellRing_52 2 rfl rfl (by decide) rfl ?_
      refine xi_goto (tgt := 17) hC d_G_tellRing_55 (by decide) ?_
      refine xi_locs (lv' := [(0, .ref r0), (3, .int x3), (4, .int (x4 + 1))]) [1, 2, 0] rfl ?_
      exact ih _ _ _ _ _ _ hE
set_option maxRecDepth 100000 in
set_option maxHeartbeats 4000000 in
theorem s_G_tellRing_0 {p : Program} {l : Launch} {e : Env} {s : State} {m : MethodId} {args : Array Value} {below : List Frame} {meth : Method} {c : Code} {D : va_G} {A : Nat → Prop} {ad0 : Nat → Nat} {n0 : Nat} (hC : XC p s m args c c_G_tellRing 5 y_G_tellRing.cls XTs XCL XNW XAL D A) (hr : meth.sig.returnType = none) (hlk : meth.locks = false) (hnm : meth.name = y_G_tellRing.name)   (r0 : Nat) (x1 : Int32) (x2 : Int32) (n : Nat) (h : XH) (h' : XH) (hE : D_G_tellRing_0  r0 x1 x2 h = some h') : XW p l e ({ frames := 3, cells := 0, slots := 0, locals := 67 } : Room) s m args below meth c 5 XCL D A ad0 n0 0 0 (MQ below (xQc D XCL n0 ad0 A none n h') args s 0 0 A) n h 0 [(0, .ref r0), (1, .int x1), (2, .int x2)] [] := by
  unfold D_G_tellRing_0 at hE
  refine xi_aload_n hC d_G_tellRing_0 rfl 0 rfl ?_
  refine xi_iload_n hC d_G_tellRing_1 rfl 1 rfl ?_
  refine xi_iload_n hC d_G_tellRing_2 rfl 2 rfl ?_
  obtain ⟨hI4, hE⟩ := xchk_inv hE
  obtain ⟨v1, h2, hE3, hE⟩ := xb2_inv hE
  refine xi_callV (as := [.int x1, .int x2]) (st := []) (C := R_G) (T := T_G) (N := 5) hC (x_G_layersFrom hE3) rfl (by decide) hI4 xt_70 xt_71 xt_72 xt_30 xt_69 ⟨by decide, by decide, (by decide +kernel : (parseMethodDescriptor y_G_layersFrom.desc).map (fun d => d.parameters.length) = some 2)⟩ rfl rfl ⟨by decide, by decide⟩ ⟨by decide, by decide⟩ (Nat.le_of_ble_eq_true rfl) rfl d_G_tellRing_3 ?_
  refine xi_stk (st' := [.int v1]) rfl ?_
  refine xi_istore_n (lv' := [(3, .int v1), (0, .ref r0), (1, .int x1), (2, .int x2)]) hC d_G_tellRing_6 rfl (by decide) rfl ?_
  refine xi_aload_n hC d_G_tellRing_7 rfl 1 rfl ?_
  obtain ⟨q6, hE5, hE⟩ := xb1_inv hE
  refine xi_get (C := R_G) (T := T_G) (N := 5) (ci := 2) (k := 3) hC rfl iws_G (by decide) xt_13 (by decide) (xgR_inv hE5) d_G_tellRing_8 ?_
  refine xi_iconst (v := (0 : Int32)) hC d_G_tellRing_11 (by decide) ?_
  refine xi_iload_n hC d_G_tellRing_12 rfl 3 rfl ?_
  obtain ⟨h7, hE8, hE⟩ := xb1_inv hE
  refine xi_iast hC hE8 d_G_tellRing_13 ?_
  refine xi_iconst (v := (1 : Int32)) hC d_G_tellRing_14 (by decide) ?_
  refine xi_istore (lv' := [(4, .int (1 : Int32)), (3, .int v1), (0, .ref r0), (1, .int x1), (2, .int x2)]) hC d_G_tellRing_15 (by decide) rfl ?_
  refine xi_locs (lv' := [(0, .ref r0), (3, .int v1), (4, .int (1 : Int32))]) [2, 1, 0] rfl ?_
  exact s_G_tellRing_17 hC hr hlk hnm 5000 _ _ _ _ _ _ hE
set_option maxRecDepth 100000 in
theorem x_G_tellRing {l : Launch} {D : va_G} {r0 : Nat} {x1 : Int32} {x2 : Int32} {n : Nat} {h : XH} {h' : XH} (hE : X_G_tellRing r0 x1 x2 h = some h') : XMet l y_G_tellRing c_G_tellRing 5 none XTs XCL XNW XAL D ({ frames := 3, cells := 0, slots := 0, locals := 67 } : Room) 0 0 [.ref r0, .int x1, .int x2] n h none n h' := by
  refine XMet.mk (by decide) xNW_good xTs_good (Nat.le_of_ble_eq_true rfl) ?_
  intro p e s m args below meth c A ad0 hC hr hlk hnm
  refine xi_locs (lv' := [(0, .ref r0), (1, .int x1), (2, .int x2)]) [0, 1, 2] rfl ?_
  exact s_G_tellRing_0 hC hr hlk hnm _ _ _ n h _ hE

set_option maxRecDepth 100000 in
set_option maxHeartbeats 4000000 in
theorem s_G_add_64 {p : Program} {l : Launch} {e : Env} {s : State} {m : MethodId} {args : Array Value} {below : List Frame} {meth : Method} {c : Code} {D : va_G} {A : Nat → Prop} {ad0 : Nat → Nat} {n0 : Nat} (hC : XC p s m args c c_G_add 5 y_G_add.cls XTs XCL XNW XAL D A) (hr : meth.sig.returnType = none) (hlk : meth.locks = false) (hnm : meth.name = y_G_add.name) {k26 : Nat → Int32 → Int32 → Int32 → XH → Option (XH)} (n : Nat) (h' : XH) (hk26 : ∀ (r0 : Nat) (x2 : Int32) (x3 : Int32) (x4 : Int32) (h1 : XH), k26 r0 x2 x3 x4 h1 = some h' → XW p l e ({ frames := 1, cells := 0, slots := 0, locals := 21 } : Room) s m args below meth c 5 XCL D A ad0 n0 0 0 (MQ below (xQc D XCL n0 ad0 A none n h') args s 0 0 A) n h1 26 [(0, .ref r0), (2, .int x2), (3, .int x3), (4, .int x4)] []) (r0 : Nat) (x2 : Int32) (x3 : Int32) (x4 : Int32) (h : XH)  (hE : D_G_add_64 k26 r0 x2 x3 x4 h = some h') : XW p l e ({ frames := 1, cells := 0, slots := 0, locals := 21 } : Room) s m args below meth c 5 XCL D A ad0 n0 0 0 (MQ below (xQc D XCL n0 ad0 A none n h') args s 0 0 A) n h 64 [(0, .ref r0), (2, .int x2), (3, .int x3), (4, .int x4)] [] := by
  unfold D_G_add_64 at hE
  refine xi_iinc (v := x4 + 1) (lv' := [(4, .int (x4 + 1)), (0, .ref r0), (2, .int x2), (3, .int x3)]) hC d_G_add_64 3 rfl rfl (by decide) rfl ?_
  refine xi_goto (tgt := 26) hC d_G_add_67 (by decide) ?_
  refine xi_locs (lv' := [(0, .ref r0), (2, .int x2), (3, .int x3), (4, .int (x4 + 1))]) [1, 2, 3, 0] rfl ?_
  exact hk26 _ _ _ _ _ hE
set_option maxRecDepth 100000 in
set_option maxHeartbeats 4000000 in
theorem s_G_add_53 {p : Program} {l : Launch} {e : Env} {s : State} {m : MethodId} {args : Array Value} {below : List Frame} {meth : Method} {c : Code} {D : va_G} {A : Nat → Prop} {ad0 : Nat → Nat} {n0 : Nat} (hC : XC p s m args c c_G_add 5 y_G_add.cls XTs XCL XNW XAL D A) (hr : meth.sig.returnType = none) (hlk : meth.locks = false) (hnm : meth.name = y_G_add.name) {k26 : Nat → Int32 → Int32 → Int32 → XH → Option (XH)} (n : Nat) (h' : XH) (hk26 : ∀ (r0 : Nat) (x2 : Int32) (x3 : Int32) (x4 : Int32) (h1 : XH), k26 r0 x2 x3 x4 h1 = some h' → XW p l e ({ frames := 1, cells := 0, slots := 0, locals := 21 } : Room) s m args below meth c 5 XCL D A ad0 n0 0 0 (MQ below (xQc D XCL n0 ad0 A none n h') args s 0 0 A) n h1 26 [(0, .ref r0), (2, .int x2), (3, .int x3), (4, .int x4)] []) (r0 : Nat) (x2 : Int32) (x3 : Int32) (x4 : Int32) (h : XH)  (hE : D_G_add_53 k26 r0 x2 x3 x4 h = some h') : XW p l e ({ frames := 1, cells := 0, slots := 0, locals := 21 } : Room) s m args below meth c 5 XCL D A ad0 n0 0 0 (MQ below (xQc D XCL n0 ad0 A none n h') args s 0 0 A) n h 53 [(0, .ref r0), (2, .int x2), (3, .int x3), (4, .int x4)] [] := by
  unfold D_G_add_53 at hE
  refine xi_aload_n hC d_G_add_53 rfl 0 rfl ?_
  obtain ⟨q2, hE1, hE⟩ := xb1_inv hE
  refine xi_get (C := R_G) (T := T_G) (N := 5) (ci := 2) (k := 1) hC rfl iws_G (by decide) xt_11 (by decide) (xgR_inv hE1) d_G_add_54 ?_
  refine xi_iload hC d_G_add_57 3 rfl ?_
  refine xi_dup2 hC d_G_add_59 rfl rfl ?_
  obtain ⟨v3, hE4, hE⟩ := xb1_inv hE
  refine xi_iald hC hE4 d_G_add_60 ?_
  refine xi_iload_n hC d_G_add_61 rfl 2 rfl ?_
  refine xi_ior hC d_G_add_62 ?_
  obtain ⟨h5, hE6, hE⟩ := xb1_inv hE
  refine xi_iast hC hE6 d_G_add_63 ?_
  refine xi_locs (lv' := [(0, .ref r0), (2, .int x2), (3, .int x3), (4, .int x4)]) [0, 1, 2, 3] rfl ?_
  exact s_G_add_64 hC hr hlk hnm _ _ hk26 _ _ _ _ _ hE
set_option maxRecDepth 100000 in
set_option maxHeartbeats 4000000 in
theorem s_G_add_26 {p : Program} {l : Launch} {e : Env} {s : State} {m : MethodId} {args : Array Value} {below : List Frame} {meth : Method} {c : Code} {D : va_G} {A : Nat → Prop} {ad0 : Nat → Nat} {n0 : Nat} (hC : XC p s m args c c_G_add 5 y_G_add.cls XTs XCL XNW XAL D A) (hr : meth.sig.returnType = none) (hlk : meth.locks = false) (hnm : meth.name = y_G_add.name)   : ∀ (f : Nat) (r0 : Nat) (x2 : Int32) (x3 : Int32) (x4 : Int32) (n : Nat) (h : XH) (h' : XH), D_G_add_26  f r0 x2 x3 x4 h = some h' → XW p l e ({ frames := 1, cells := 0, slots := 0, locals := 21 } : Room) s m args below meth c 5 XCL D A ad0 n0 0 0 (MQ below (xQc D XCL n0 ad0 A none n h') args s 0 0 A) n h 26 [(0, .ref r0), (2, .int x2), (3, .int x3), (4, .int x4)] [] := by
  intro f
  induction f with
  | zero =>
    intro r0 x2 x3 x4 n h h' hE
    exact absurd hE (by simp [D_G_add_26])
  | succ fu ih =>
    intro r0 x2 x3 x4 n h h' hE
    simp only [D_G_add_26] at hE
    refine xi_iload hC d_G_add_26 3 rfl ?_
    refine xi_bipush (v := (24 : Int32)) hC d_G_add_28 (by decide) ?_
    refine xi_icmp_gt (tgt := 70) hC d_G_add_30 (by decide) (fun hz1 => ?_) (fun hz1 => ?_)
    · rw [if_pos hz1] at hE
      cases hE
      exact xi_vret hC hr hlk d_G_add_70
    · rw [if_neg hz1] at hE
      refine xi_iload hC d_G_add_33 3 rfl ?_
      refine xi_iload_n hC d_G_add_35 rfl 1 rfl ?_
      refine xi_icmp_eq (tgt := 53) hC d_G_add_36 (by decide) (fun hz2 => ?_) (fun hz2 => ?_)
      · rw [if_pos hz2] at hE
        refine xi_locs (lv' := [(0, .ref r0), (2, .int x2), (3, .int x3), (4, .int x4)]) [0, 1, 2, 3] rfl ?_
        exact s_G_add_53 hC hr hlk hnm _ _ (fun y0 y1 y2 y3 h1 z => ih y0 y1 y2 y3 _ h1 _ z) _ _ _ _ _ hE
      · rw [if_neg hz2] at hE
        refine xi_aload_n hC d_G_add_39 rfl 0 rfl ?_
        obtain ⟨q4, hE3, hE⟩ := xb1_inv hE
        refine xi_get (C := R_G) (T := T_G) (N := 5) (ci := 2) (k := 1) hC rfl iws_G (by decide) xt_11 (by decide) (xgR_inv hE3) d_G_add_40 ?_
        refine xi_iload hC d_G_add_43 3 rfl ?_
        obtain ⟨v5, hE6, hE⟩ := xb1_inv hE
        refine xi_iald hC hE6 d_G_add_45 ?_
        refine xi_iload_n hC d_G_add_46 rfl 1 rfl ?_
        obtain ⟨v7, hE8, hE⟩ := xb1_inv hE
        refine xi_callSN (as := [.int v5, .int x2]) (st := []) hC (x_T_isIn hE8) xn_1 xt_59 xt_47 xt_58 ⟨by decide, by decide, (by decide +kernel : (parseMethodDescriptor y_T_isIn.desc).map (fun d => d.parameters.length) = some 2)⟩ rfl rfl ⟨by decide, by decide⟩ ⟨by decide, by decide⟩ (Nat.le_of_ble_eq_true rfl) rfl d_G_add_47 ?_
        refine xi_stk (st' := [.int v7]) rfl ?_
        refine xi_if_eq (tgt := 64) hC d_G_add_50 (by decide) (fun hz9 => ?_) (fun hz9 => ?_)
        · rw [if_pos hz9] at hE
          refine xi_locs (lv' := [(0, .ref r0), (2, .int x2), (3, .int x3), (4, .int x4)]) [0, 1, 2, 3] rfl ?_
          exact s_G_add_64 hC hr hlk hnm _ _ (fun y0 y1 y2 y3 h1 z => ih y0 y1 y2 y3 _ h1 _ z) _ _ _ _ _ hE
        · rw [if_neg hz9] at hE
          refine xi_locs (lv' := [(0, .ref r0), (2, .int x2), (3, .int x3), (4, .int x4)]) [0, 1, 2, 3] rfl ?_
          exact s_G_add_53 hC hr hlk hnm _ _ (fun y0 y1 y2 y3 h1 z => ih y0 y1 y2 y3 _ h1 _ z) _ _ _ _ _ hE
set_option maxRecDepth 100000 in
set_option maxHeartbeats 4000000 in
theorem s_G_add_0 {p : Program} {l : Launch} {e : Env} {s : State} {m : MethodId} {args : Array Value} {below : List Frame} {meth : Method} {c : Code} {D : va_G} {A : Nat → Prop} {ad0 : Nat → Nat} {n0 : Nat} (hC : XC p s m args c c_G_add 5 y_G_add.cls XTs XCL XNW XAL D A) (hr : meth.sig.returnType = none) (hlk : meth.locks = false) (hnm : meth.name = y_G_add.name)   (r0 : Nat) (x1 : Int32) (x2 : Int32) (n : Nat) (h : XH) (h' : XH) (hE : D_G_add_0  r0 x1 x2 h = some h') : XW p l e ({ frames := 1, cells := 0, slots := 0, locals := 21 } : Room) s m args below meth c 5 XCL D A ad0 n0 0 0 (MQ below (xQc D XCL n0 ad0 A none n h') args s 0 0 A) n h 0 [(0, .ref r0), (1, .int x1), (2, .int x2)] [] := by
  unfold D_G_add_0 at hE
  refine xi_aload_n hC d_G_add_0 rfl 0 rfl ?_
  obtain ⟨q2, hE1, hE⟩ := xb1_inv hE
  refine xi_get (C := R_G) (T := T_G) (N := 5) (ci := 2) (k := 0) hC rfl iws_G (by decide) xt_10 (by decide) (xgR_inv hE1) d_G_add_1 ?_
  refine xi_iload_n hC d_G_add_4 rfl 2 rfl ?_
  refine xi_dup2 hC d_G_add_5 rfl rfl ?_
  obtain ⟨v3, hE4, hE⟩ := xb1_inv hE
  refine xi_iald hC hE4 d_G_add_6 ?_
  refine xi_iconst (v := (1 : Int32)) hC d_G_add_7 (by decide) ?_
  refine xi_iload_n hC d_G_add_8 rfl 1 rfl ?_
  refine xi_ishl hC d_G_add_9 ?_
  refine xi_ior hC d_G_add_10 ?_
  obtain ⟨h5, hE6, hE⟩ := xb1_inv hE
  refine xi_iast hC hE6 d_G_add_11 ?_
  refine xi_aload_n hC d_G_add_12 rfl 0 rfl ?_
  obtain ⟨q8, hE7, hE⟩ := xb1_inv hE
  refine xi_get (C := R_G) (T := T_G) (N := 5) (ci := 2) (k := 1) hC rfl iws_G (by decide) xt_11 (by decide) (xgR_inv hE7) d_G_add_13 ?_
  refine xi_iload_n hC d_G_add_16 rfl 1 rfl ?_
  obtain ⟨v9, hE10, hE⟩ := xb1_inv hE
  refine xi_iald hC hE10 d_G_add_17 ?_
  refine xi_iconst (v := (1 : Int32)) hC d_G_add_18 (by decide) ?_
  refine xi_iload_n hC d_G_add_19 rfl 1 rfl ?_
  refine xi_ishl hC d_G_add_20 ?_
  refine xi_ior hC d_G_add_21 ?_
  refine xi_istore_n (lv' := [(3, .int (v9 ||| ((1 : Int32) <<< (x1 &&& 31)))), (0, .ref r0), (1, .int x1), (2, .int x2)]) hC d_G_add_22 rfl (by decide) rfl ?_
  refine xi_iconst (v := (1 : Int32)) hC d_G_add_23 (by decide) ?_
  refine xi_istore (lv' := [(4, .int (1 : Int32)), (3, .int (v9 ||| ((1 : Int32) <<< (x1 &&& 31)))), (0, .ref r0), (1, .int x1), (2, .int x2)]) hC d_G_add_24 (by decide) rfl ?_
  refine xi_locs (lv' := [(0, .ref r0), (2, .int x2), (3, .int (v9 ||| ((1 : Int32) <<< (x1 &&& 31)))), (4, .int (1 : Int32))]) [2, 4, 1, 0] rfl ?_
  exact s_G_add_26 hC hr hlk hnm 5000 _ _ _ _ _ _ _ hE
set_option maxRecDepth 100000 in
theorem x_G_add {l : Launch} {D : va_G} {r0 : Nat} {x1 : Int32} {x2 : Int32} {n : Nat} {h : XH} {h' : XH} (hE : X_G_add r0 x1 x2 h = some h') : XMet l y_G_add c_G_add 5 none XTs XCL XNW XAL D ({ frames := 1, cells := 0, slots := 0, locals := 21 } : Room) 0 0 [.ref r0, .int x1, .int x2] n h none n h' := by
  refine XMet.mk (by decide) xNW_good xTs_good (Nat.le_of_ble_eq_true rfl) ?_
  intro p e s m args below meth c A ad0 hC hr hlk hnm
  refine xi_locs (lv' := [(0, .ref r0), (1, .int x1), (2, .int x2)]) [0, 1, 2] rfl ?_
  exact s_G_add_0 hC hr hlk hnm _ _ _ n h _ hE

set_option maxRecDepth 100000 in
set_option maxHeartbeats 4000000 in
theorem s_T_needs_60 {p : Program} {l : Launch} {e : Env} {s : State} {m : MethodId} {args : Array Value} {below : List Frame} {meth : Method} {c : Code} {D : va_G} {A : Nat → Prop} {ad0 : Nat → Nat} {n0 : Nat} (hC : XC p s m args c c_T_needs 4 y_T_needs.cls XTs XCL XNW XAL D A) (hr : meth.sig.returnType = some .int) (hlk : meth.locks = false) (hnm : meth.name = y_T_needs.name)   (r0 : Nat) (n : Nat) (h : XH) (rr : Int32) (h' : XH) (hE : D_T_needs_60  r0 h = some (rr, h')) : XW p l e ({ frames := 4, cells := 0, slots := 0, locals := 91 } : Room) s m args below meth c 4 XCL D A ad0 n0 0 0 (MQ below (xQc D XCL n0 ad0 A (some (.int rr)) n h') args s 0 0 A) n h 60 [(0, .ref r0)] [] := by
  unfold D_T_needs_60 at hE
  refine xi_aload_n hC d_T_needs_60 rfl 0 rfl ?_
  refine xi_null hC d_T_needs_61 ?_
  obtain ⟨h1, hE2, hE⟩ := xb1_inv hE
  refine xi_put (C := R_T) (T := T_T) (N := 6) (ci := 0) (k := 5) hC ty_T rfl iws_T tok_T nok_T (by decide) xt_53 (by decide) rfl (fun _ => rfl) (fun _ => rfl) hE2 d_T_needs_62 ?_
  refine xi_iconst (v := (1 : Int32)) hC d_T_needs_65 (by decide) ?_
  cases hE
  exact xi_iret hC hr hlk d_T_needs_66
set_option maxRecDepth 100000 in
set_option maxHeartbeats 4000000 in
theorem s_T_needs_22 {p : Program} {l : Launch} {e : Env} {s : State} {m : MethodId} {args : Array Value} {below : List Frame} {meth : Method} {c : Code} {D : va_G} {A : Nat → Prop} {ad0 : Nat → Nat} {n0 : Nat} (hC : XC p s m args c c_T_needs 4 y_T_needs.cls XTs XCL XNW XAL D A) (hr : meth.sig.returnType = some .int) (hlk : meth.locks = false) (hnm : meth.name = y_T_needs.name)    (n : Nat) (h : XH) (rr : Int32) (h' : XH) (hE : D_T_needs_22   h = some (rr, h')) : XW p l e ({ frames := 4, cells := 0, slots := 0, locals := 91 } : Room) s m args below meth c 4 XCL D A ad0 n0 0 0 (MQ below (xQc D XCL n0 ad0 A (some (.int rr)) n h') args s 0 0 A) n h 22 [] [] := by
  unfold D_T_needs_22 at hE
  refine xi_iconst (v := (-1 : Int32)) hC d_T_needs_22 (by decide) ?_
  cases hE
  exact xi_iret hC hr hlk d_T_needs_23
set_option maxRecDepth 100000 in
set_option maxHeartbeats 4000000 in
theorem s_T_needs_0 {p : Program} {l : Launch} {e : Env} {s : State} {m : MethodId} {args : Array Value} {below : List Frame} {meth : Method} {c : Code} {D : va_G} {A : Nat → Prop} {ad0 : Nat → Nat} {n0 : Nat} (hC : XC p s m args c c_T_needs 4 y_T_needs.cls XTs XCL XNW XAL D A) (hr : meth.sig.returnType = some .int) (hlk : meth.locks = false) (hnm : meth.name = y_T_needs.name)   (r0 : Nat) (x1 : Int32) (x2 : Int32) (x3 : Int32) (n : Nat) (h : XH) (rr : Int32) (h' : XH) (hE : D_T_needs_0  r0 x1 x2 x3 h = some (rr, h')) : XW p l e ({ frames := 4, cells := 0, slots := 0, locals := 91 } : Room) s m args below meth c 4 XCL D A ad0 n0 0 0 (MQ below (xQc D XCL n0 ad0 A (some (.int rr)) n h') args s 0 0 A) n h 0 [(0, .ref r0), (1, .int x1), (2, .int x2), (3, .int x3)] [] := by
  unfold D_T_needs_0 at hE
  refine xi_aload_n hC d_T_needs_0 rfl 0 rfl ?_
  obtain ⟨q2, hE1, hE⟩ := xb1_inv hE
  refine xi_get (C := R_T) (T := T_T) (N := 6) (ci := 0) (k := 0) hC rfl iws_T (by decide) xt_27 (by decide) (xgR_inv hE1) d_T_needs_1 ?_
  refine xi_iload_n hC d_T_needs_4 rfl 1 rfl ?_
  obtain ⟨hI5, hE⟩ := xchk_inv hE
  obtain ⟨v3, hE4, hE⟩ := xb1_inv hE
  refine xi_callV (as := [.int x1]) (st := []) (C := R_U) (T := T_U) (N := 6) hC (x_U_has hE4) rfl (by decide) hI5 xt_74 xt_75 xt_76 xt_23 xt_73 ⟨by decide, by decide, (by decide +kernel : (parseMethodDescriptor y_U_has.desc).map (fun d => d.parameters.length) = some 1)⟩ rfl rfl ⟨by decide, by decide⟩ ⟨by decide, by decide⟩ (Nat.le_of_ble_eq_true rfl) rfl d_T_needs_5 ?_
  refine xi_stk (st' := [.int v3]) rfl ?_
  refine xi_if_eq (tgt := 22) hC d_T_needs_8 (by decide) (fun hz6 => ?_) (fun hz6 => ?_)
  · rw [if_pos hz6] at hE
    refine xi_locs (lv' := []) [] rfl ?_
    exact s_T_needs_22 hC hr hlk hnm _ _ _ _ hE
  · rw [if_neg hz6] at hE
    refine xi_aload_n hC d_T_needs_11 rfl 0 rfl ?_
    obtain ⟨q8, hE7, hE⟩ := xb1_inv hE
    refine xi_get (C := R_T) (T := T_T) (N := 6) (ci := 0) (k := 0) hC rfl iws_T (by decide) xt_27 (by decide) (xgR_inv hE7) d_T_needs_12 ?_
    refine xi_iload_n hC d_T_needs_15 rfl 2 rfl ?_
    obtain ⟨hI11, hE⟩ := xchk_inv hE
    obtain ⟨v9, hE10, hE⟩ := xb1_inv hE
    refine xi_callV (as := [.int x2]) (st := []) (C := R_U) (T := T_U) (N := 6) hC (x_U_has hE10) rfl (by decide) hI11 xt_74 xt_75 xt_76 xt_23 xt_73 ⟨by decide, by decide, (by decide +kernel : (parseMethodDescriptor y_U_has.desc).map (fun d => d.parameters.length) = some 1)⟩ rfl rfl ⟨by decide, by decide⟩ ⟨by decide, by decide⟩ (Nat.le_of_ble_eq_true rfl) rfl d_T_needs_16 ?_
    refine xi_stk (st' := [.int v9]) rfl ?_
    refine xi_if_ne (tgt := 24) hC d_T_needs_19 (by decide) (fun hz12 => ?_) (fun hz12 => ?_)
    · rw [if_neg hz12] at hE
      refine xi_iload_n hC d_T_needs_24 rfl 3 rfl ?_
      refine xi_if_ne (tgt := 60) hC d_T_needs_25 (by decide) (fun hz13 => ?_) (fun hz13 => ?_)
      · rw [if_neg hz13] at hE
        refine xi_locs (lv' := [(0, .ref r0)]) [0] rfl ?_
        exact s_T_needs_60 hC hr hlk hnm _ _ _ _ _ hE
      · rw [if_pos hz13] at hE
        refine xi_aload_n hC d_T_needs_28 rfl 0 rfl ?_
        obtain ⟨q15, hE14, hE⟩ := xb1_inv hE
        refine xi_get (C := R_T) (T := T_T) (N := 6) (ci := 0) (k := 1) hC rfl iws_T (by decide) xt_34 (by decide) (xgR_inv hE14) d_T_needs_29 ?_
        refine xi_iload_n hC d_T_needs_32 rfl 1 rfl ?_
        refine xi_iload_n hC d_T_needs_33 rfl 2 rfl ?_
        obtain ⟨hI18, hE⟩ := xchk_inv hE
        obtain ⟨v16, hE17, hE⟩ := xb1_inv hE
        refine xi_callV (as := [.int x1, .int x2]) (st := []) (C := R_G) (T := T_G) (N := 5) hC (x_G_wouldCloseRing hE17) rfl (by decide) hI18 xt_78 xt_79 xt_80 xt_30 xt_77 ⟨by decide, by decide, (by decide +kernel : (parseMethodDescriptor y_G_wouldCloseRing.desc).map (fun d => d.parameters.length) = some 2)⟩ rfl rfl ⟨by decide, by decide⟩ ⟨by decide, by decide⟩ (Nat.le_of_ble_eq_true rfl) rfl d_T_needs_34 ?_
        refine xi_stk (st' := [.int v16]) rfl ?_
        refine xi_if_eq (tgt := 51) hC d_T_needs_37 (by decide) (fun hz19 => ?_) (fun hz19 => ?_)
        · rw [if_pos hz19] at hE
          refine xi_aload_n hC d_T_needs_51 rfl 0 rfl ?_
          obtain ⟨q21, hE20, hE⟩ := xb1_inv hE
          refine xi_get (C := R_T) (T := T_T) (N := 6) (ci := 0) (k := 1) hC rfl iws_T (by decide) xt_34 (by decide) (xgR_inv hE20) d_T_needs_52 ?_
          refine xi_iload_n hC d_T_needs_55 rfl 1 rfl ?_
          refine xi_iload_n hC d_T_needs_56 rfl 2 rfl ?_
          obtain ⟨hI24, hE⟩ := xchk_inv hE
          obtain ⟨h22, hE23, hE⟩ := xb1_inv hE
          refine xi_callV (as := [.int x1, .int x2]) (st := []) (C := R_G) (T := T_G) (N := 5) hC (x_G_add hE23) rfl (by decide) hI24 xt_82 xt_83 xt_84 xt_30 xt_81 ⟨by decide, by decide, (by decide +kernel : (parseMethodDescriptor y_G_add.desc).map (fun d => d.parameters.length) = some 2)⟩ rfl rfl ⟨by decide, by decide⟩ ⟨by decide, by decide⟩ (Nat.le_of_ble_eq_true rfl) rfl d_T_needs_57 ?_
          refine xi_stk (st' := []) rfl ?_
          refine xi_locs (lv' := [(0, .ref r0)]) [0] rfl ?_
          exact s_T_needs_60 hC hr hlk hnm _ _ _ _ _ hE
        · rw [if_neg hz19] at hE
          refine xi_aload_n hC d_T_needs_40 rfl 0 rfl ?_
          obtain ⟨q26, hE25, hE⟩ := xb1_inv hE
          refine xi_get (C := R_T) (T := T_T) (N := 6) (ci := 0) (k := 1) hC rfl iws_T (by decide) xt_34 (by decide) (xgR_inv hE25) d_T_needs_41 ?_
          refine xi_iload_n hC d_T_needs_44 rfl 1 rfl ?_
          refine xi_iload_n hC d_T_needs_45 rfl 2 rfl ?_
          obtain ⟨hI29, hE⟩ := xchk_inv hE
          obtain ⟨h27, hE28, hE⟩ := xb1_inv hE
          refine xi_callV (as := [.int x1, .int x2]) (st := []) (C := R_G) (T := T_G) (N := 5) hC (x_G_tellRing hE28) rfl (by decide) hI29 xt_86 xt_87 xt_88 xt_30 xt_85 ⟨by decide, by decide, (by decide +kernel : (parseMethodDescriptor y_G_tellRing.desc).map (fun d => d.parameters.length) = some 2)⟩ rfl rfl ⟨by decide, by decide⟩ ⟨by decide, by decide⟩ (Nat.le_of_ble_eq_true rfl) rfl d_T_needs_46 ?_
          refine xi_stk (st' := []) rfl ?_
          refine xi_iconst (v := (0 : Int32)) hC d_T_needs_49 (by decide) ?_
          cases hE
          exact xi_iret hC hr hlk d_T_needs_50
    · rw [if_pos hz12] at hE
      refine xi_locs (lv' := []) [] rfl ?_
      exact s_T_needs_22 hC hr hlk hnm _ _ _ _ hE
set_option maxRecDepth 100000 in
theorem x_T_needs {l : Launch} {D : va_G} {r0 : Nat} {x1 : Int32} {x2 : Int32} {x3 : Int32} {n : Nat} {h : XH} {rr : Int32} {h' : XH} (hE : X_T_needs r0 x1 x2 x3 h = some (rr, h')) : XMet l y_T_needs c_T_needs 4 (some .int) XTs XCL XNW XAL D ({ frames := 4, cells := 0, slots := 0, locals := 91 } : Room) 0 0 [.ref r0, .int x1, .int x2, .int x3] n h (some (.int rr)) n h' := by
  refine XMet.mk (by decide) xNW_good xTs_good (Nat.le_of_ble_eq_true rfl) ?_
  intro p e s m args below meth c A ad0 hC hr hlk hnm
  refine xi_locs (lv' := [(0, .ref r0), (1, .int x1), (2, .int x2), (3, .int x3)]) [0, 1, 2, 3] rfl ?_
  exact s_T_needs_0 hC hr hlk hnm _ _ _ _ n h _ _ hE


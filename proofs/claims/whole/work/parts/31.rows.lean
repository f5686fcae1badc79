set_option maxRecDepth 100000 in
set_option maxHeartbeats 4000000 in
theorem s_T_isDatum_0 {p : Program} {l : Launch} {e : Env} {s : State} {m : MethodId} {args : Array Value} {below : List Frame} {meth : Method} {c : Code} {D : va_G} {A : Nat → Prop} {ad0 : Nat → Nat} {n0 : Nat} (hC : XC p s m args c c_T_isDatum 1 y_T_isDatum.cls XTs XCL XNW XAL D A) (hr : meth.sig.returnType = some .boolean) (hlk : meth.locks = false) (hnm : meth.name = y_T_isDatum.name)   (x0 : Int32) (n : Nat) (h : XH) (rr : Int32)  (hE : D_T_isDatum_0  x0 h = some rr) : XW p l e ({ frames := 1, cells := 0, slots := 0, locals := 22 } : Room) s m args below meth c 1 XCL D A ad0 n0 0 0 (MQ below (xQc D XCL n0 ad0 A (some (.int rr)) n h) args s 0 0 A) n h 0 [(0, .int x0)] [] := by
  unfold D_T_isDatum_0 at hE
  refine xi_iload_n hC d_T_isDatum_0 rfl 0 rfl ?_
  refine xi_iconst (v := (1 : Int32)) hC d_T_isDatum_1 (by decide) ?_
  refine xi_bipush (v := (20 : Int32)) hC d_T_isDatum_2 (by decide) ?_
  obtain ⟨v1, hE2, hE⟩ := xb1_inv hE
  refine xi_callS (as := [.int x0, .int (1 : Int32), .int (20 : Int32)]) (st := []) hC (x_T_isWithin hE2) xt_45 xt_46 xt_47 xt_44 ⟨by decide, by decide, (by decide +kernel : (parseMethodDescriptor y_T_isWithin.desc).map (fun d => d.parameters.length) = some 3)⟩ rfl rfl ⟨by decide, by decide⟩ ⟨by decide, by decide⟩ (Nat.le_of_ble_eq_true rfl) rfl d_T_isDatum_4 ?_
  refine xi_stk (st' := [.int v1]) rfl ?_
  obtain ⟨hb3, hE⟩ := xchk_inv hE
  cases hE
  exact xi_zret hC hr (xzb_nar hb3) hlk d_T_isDatum_7
set_option maxRecDepth 100000 in
theorem x_T_isDatum {l : Launch} {D : va_G} {x0 : Int32} {n : Nat} {h : XH} {rr : Int32}  (hE : X_T_isDatum x0 h = some rr) : XMet l y_T_isDatum c_T_isDatum 1 (some .boolean) XTs XCL XNW XAL D ({ frames := 1, cells := 0, slots := 0, locals := 22 } : Room) 0 0 [.int x0] n h (some (.int rr)) n h := by
  refine XMet.mk (by decide) xNW_good xTs_good (Nat.le_of_ble_eq_true rfl) ?_
  intro p e s m args below meth c A ad0 hC hr hlk hnm
  refine xi_locs (lv' := [(0, .int x0)]) [0] rfl ?_
  exact s_T_isDatum_0 hC hr hlk hnm _ n h _ hE

set_option maxRecDepth 100000 in
set_option maxHeartbeats 4000000 in
theorem s_U_addWrite_0 {p : Program} {l : Launch} {e : Env} {s : State} {m : MethodId} {args : Array Value} {below : List Frame} {meth : Method} {c : Code} {D : va_G} {A : Nat → Prop} {ad0 : Nat → Nat} {n0 : Nat} (hC : XC p s m args c c_U_addWrite 3 y_U_addWrite.cls XTs XCL XNW XAL D A) (hr : meth.sig.returnType = none) (hlk : meth.locks = false) (hnm : meth.name = y_U_addWrite.name)   (r0 : Nat) (x1 : Int32) (x2 : Int32) (n : Nat) (h : XH) (h' : XH) (hE : D_U_addWrite_0  r0 x1 x2 h = some h') : XW p l e ({ frames := 0, cells := 0, slots := 0, locals := 0 } : Room) s m args below meth c 3 XCL D A ad0 n0 0 0 (MQ below (xQc D XCL n0 ad0 A none n h') args s 0 0 A) n h 0 [(0, .ref r0), (1, .int x1), (2, .int x2)] [] := by
  unfold D_U_addWrite_0 at hE
  refine xi_aload_n hC d_U_addWrite_0 rfl 0 rfl ?_
  obtain ⟨q2, hE1, hE⟩ := xb1_inv hE
  refine xi_get (C := R_U) (T := T_U) (N := 6) (ci := 1) (k := 5) hC rfl iws_U (by decide) xt_8 (by decide) (xgR_inv hE1) d_U_addWrite_1 ?_
  refine xi_iload_n hC d_U_addWrite_4 rfl 1 rfl ?_
  refine xi_dup2 hC d_U_addWrite_5 rfl rfl ?_
  obtain ⟨v3, hE4, hE⟩ := xb1_inv hE
  refine xi_iald hC hE4 d_U_addWrite_6 ?_
  refine xi_iconst (v := (1 : Int32)) hC d_U_addWrite_7 (by decide) ?_
  refine xi_iload_n hC d_U_addWrite_8 rfl 2 rfl ?_
  refine xi_ishl hC d_U_addWrite_9 ?_
  refine xi_ior hC d_U_addWrite_10 ?_
  obtain ⟨h5, hE6, hE⟩ := xb1_inv hE
  refine xi_iast hC hE6 d_U_addWrite_11 ?_
  cases hE
  exact xi_vret hC hr hlk d_U_addWrite_12
set_option maxRecDepth 100000 in
theorem x_U_addWrite {l : Launch} {D : va_G} {r0 : Nat} {x1 : Int32} {x2 : Int32} {n : Nat} {h : XH} {h' : XH} (hE : X_U_addWrite r0 x1 x2 h = some h') : XMet l y_U_addWrite c_U_addWrite 3 none XTs XCL XNW XAL D ({ frames := 0, cells := 0, slots := 0, locals := 0 } : Room) 0 0 [.ref r0, .int x1, .int x2] n h none n h' := by
  refine XMet.mk (by decide) xNW_good xTs_good (Nat.le_of_ble_eq_true rfl) ?_
  intro p e s m args below meth c A ad0 hC hr hlk hnm
  refine xi_locs (lv' := [(0, .ref r0), (1, .int x1), (2, .int x2)]) [0, 1, 2] rfl ?_
  exact s_U_addWrite_0 hC hr hlk hnm _ _ _ n h _ hE

set_option maxRecDepth 100000 in
set_option maxHeartbeats 4000000 in
theorem s_U_addRead_0 {p : Program} {l : Launch} {e : Env} {s : State} {m : MethodId} {args : Array Value} {below : List Frame} {meth : Method} {c : Code} {D : va_G} {A : Nat → Prop} {ad0 : Nat → Nat} {n0 : Nat} (hC : XC p s m args c c_U_addRead 3 y_U_addRead.cls XTs XCL XNW XAL D A) (hr : meth.sig.returnType = none) (hlk : meth.locks = false) (hnm : meth.name = y_U_addRead.name)   (r0 : Nat) (x1 : Int32) (x2 : Int32) (n : Nat) (h : XH) (h' : XH) (hE : D_U_addRead_0  r0 x1 x2 h = some h') : XW p l e ({ frames := 0, cells := 0, slots := 0, locals := 0 } : Room) s m args below meth c 3 XCL D A ad0 n0 0 0 (MQ below (xQc D XCL n0 ad0 A none n h') args s 0 0 A) n h 0 [(0, .ref r0), (1, .int x1), (2, .int x2)] [] := by
  unfold D_U_addRead_0 at hE
  refine xi_aload_n hC d_U_addRead_0 rfl 0 rfl ?_
  obtain ⟨q2, hE1, hE⟩ := xb1_inv hE
  refine xi_get (C := R_U) (T := T_U) (N := 6) (ci := 1) (k := 4) hC rfl iws_U (by decide) xt_7 (by decide) (xgR_inv hE1) d_U_addRead_1 ?_
  refine xi_iload_n hC d_U_addRead_4 rfl 1 rfl ?_
  refine xi_dup2 hC d_U_addRead_5 rfl rfl ?_
  obtain ⟨v3, hE4, hE⟩ := xb1_inv hE
  refine xi_iald hC hE4 d_U_addRead_6 ?_
  refine xi_iconst (v := (1 : Int32)) hC d_U_addRead_7 (by decide) ?_
  refine xi_iload_n hC d_U_addRead_8 rfl 2 rfl ?_
  refine xi_ishl hC d_U_addRead_9 ?_
  refine xi_ior hC d_U_addRead_10 ?_
  obtain ⟨h5, hE6, hE⟩ := xb1_inv hE
  refine xi_iast hC hE6 d_U_addRead_11 ?_
  cases hE
  exact xi_vret hC hr hlk d_U_addRead_12
set_option maxRecDepth 100000 in
theorem x_U_addRead {l : Launch} {D : va_G} {r0 : Nat} {x1 : Int32} {x2 : Int32} {n : Nat} {h : XH} {h' : XH} (hE : X_U_addRead r0 x1 x2 h = some h') : XMet l y_U_addRead c_U_addRead 3 none XTs XCL XNW XAL D ({ frames := 0, cells := 0, slots := 0, locals := 0 } : Room) 0 0 [.ref r0, .int x1, .int x2] n h none n h' := by
  refine XMet.mk (by decide) xNW_good xTs_good (Nat.le_of_ble_eq_true rfl) ?_
  intro p e s m args below meth c A ad0 hC hr hlk hnm
  refine xi_locs (lv' := [(0, .ref r0), (1, .int x1), (2, .int x2)]) [0, 1, 2] rfl ?_
  exact s_U_addRead_0 hC hr hlk hnm _ _ _ n h _ hE

set_option maxRecDepth 100000 in
set_option maxHeartbeats 4000000 in
theorem s_J_bitCount_0 {p : Program} {l : Launch} {e : Env} {s : State} {m : MethodId} {args : Array Value} {below : List Frame} {meth : Method} {c : Code} {D : va_G} {A : Nat → Prop} {ad0 : Nat → Nat} {n0 : Nat} (hC : XC p s m args c c_J_bitCount 1 y_J_bitCount.cls XTs XCL XNW XAL D A) (hr : meth.sig.returnType = some .int) (hlk : meth.locks = false) (hnm : meth.name = y_J_bitCount.name)   (x0 : Int32) (n : Nat) (h : XH) (rr : Int32)  (hE : D_J_bitCount_0  x0 h = some rr) : XW p l e ({ frames := 0, cells := 0, slots := 0, locals := 0 } : Room) s m args below meth c 1 XCL D A ad0 n0 0 0 (MQ below (xQc D XCL n0 ad0 A (some (.int rr)) n h) args s 0 0 A) n h 0 [(0, .int x0)] [] := by
  unfold D_J_bitCount_0 at hE
  refine xi_iload_n hC d_J_bitCount_0 rfl 0 rfl ?_
  refine xi_iload_n hC d_J_bitCount_1 rfl 0 rfl ?_
  refine xi_iconst (v := (1 : Int32)) hC d_J_bitCount_2 (by decide) ?_
  refine xi_iushr hC d_J_bitCount_3 ?_
  refine xi_ldc_w (v := (1431655765 : Int32)) hC d_J_bitCount_4 xt_89 ?_
  refine xi_iand hC d_J_bitCount_7 ?_
  refine xi_isub hC d_J_bitCount_8 ?_
  refine xi_istore_n (lv' := [(0, .int (x0 - (((x0.toUInt32 >>> ((1 : Int32).toUInt32 &&& Int32.toUInt32 31)).toInt32) &&& (1431655765 : Int32))))]) hC d_J_bitCount_9 rfl (by decide) rfl ?_
  refine xi_iload_n hC d_J_bitCount_10 rfl 0 rfl ?_
  refine xi_ldc_w (v := (858993459 : Int32)) hC d_J_bitCount_11 xt_90 ?_
  refine xi_iand hC d_J_bitCount_14 ?_
  refine xi_iload_n hC d_J_bitCount_15 rfl 0 rfl ?_
  refine xi_iconst (v := (2 : Int32)) hC d_J_bitCount_16 (by decide) ?_
  refine xi_iushr hC d_J_bitCount_17 ?_
  refine xi_ldc_w (v := (858993459 : Int32)) hC d_J_bitCount_18 xt_90 ?_
  refine xi_iand hC d_J_bitCount_21 ?_
  refine xi_iadd hC d_J_bitCount_22 ?_
  refine xi_istore_n (lv' := [(0, .int (((x0 - (((x0.toUInt32 >>> ((1 : Int32).toUInt32 &&& Int32.toUInt32 31)).toInt32) &&& (1431655765 : Int32))) &&& (858993459 : Int32)) + ((((x0 - (((x0.toUInt32 >>> ((1 : Int32).toUInt32 &&& Int32.toUInt32 31)).toInt32) &&& (1431655765 : Int32))).toUInt32 >>> ((2 : Int32).toUInt32 &&& Int32.toUInt32 31)).toInt32) &&& (858993459 : Int32))))]) hC d_J_bitCount_23 rfl (by decide) rfl ?_
  refine xi_iload_n hC d_J_bitCount_24 rfl 0 rfl ?_
  refine xi_iload_n hC d_J_bitCount_25 rfl 0 rfl ?_
  refine xi_iconst (v := (4 : Int32)) hC d_J_bitCount_26 (by decide) ?_
  refine xi_iushr hC d_J_bitCount_27 ?_
  refine xi_iadd hC d_J_bitCount_28 ?_
  refine xi_ldc_w (v := (252645135 : Int32)) hC d_J_bitCount_29 xt_91 ?_
  refine xi_iand hC d_J_bitCount_32 ?_
  refine xi_istore_n (lv' := [(0, .int (((((x0 - (((x0.toUInt32 >>> ((1 : Int32).toUInt32 &&& Int32.toUInt32 31)).toInt32) &&& (1431655765 : Int32))) &&& (858993459 : Int32)) + ((((x0 - (((x0.toUInt32 >>> ((1 : Int32).toUInt32 &&& Int32.toUInt32 31)).toInt32) &&& (1431655765 : Int32))).toUInt32 >>> ((2 : Int32).toUInt32 &&& Int32.toUInt32 31)).toInt32) &&& (858993459 : Int32))) + (((((x0 - (((x0.toUInt32 >>> ((1 : Int32).toUInt32 &&& Int32.toUInt32 31)).toInt32) &&& (1431655765 : Int32))) &&& (858993459 : Int32)) + ((((x0 - (((x0.toUInt32 >>> ((1 : Int32).toUInt32 &&& Int32.toUInt32 31)).toInt32) &&& (1431655765 : Int32))).toUInt32 >>> ((2 : Int32).toUInt32 &&& Int32.toUInt32 31)).toInt32) &&& (858993459 : Int32))).toUInt32 >>> ((4 : Int32).toUInt32 &&& Int32.toUInt32 31)).toInt32)) &&& (252645135 : Int32)))]) hC d_J_bitCount_33 rfl (by decide) rfl ?_
  refine xi_iload_n hC d_J_bitCount_34 rfl 0 rfl ?_
  refine xi_iload_n hC d_J_bitCount_35 rfl 0 rfl ?_
  refine xi_bipush (v := (8 : Int32)) hC d_J_bitCount_36 (by decide) ?_
  refine xi_iushr hC d_J_bitCount_38 ?_
  refine xi_iadd hC d_J_bitCount_39 ?_
  refine xi_istore_n (lv' := [(0, .int ((((((x0 - (((x0.toUInt32 >>> ((1 : Int32).toUInt32 &&& Int32.toUInt32 31)).toInt32) &&& (1431655765 : Int32))) &&& (858993459 : Int32)) + ((((x0 - (((x0.toUInt32 >>> ((1 : Int32).toUInt32 &&& Int32.toUInt32 31)).toInt32) &&& (1431655765 : Int32))).toUInt32 >>> ((2 : Int32).toUInt32 &&& Int32.toUInt32 31)).toInt32) &&& (858993459 : Int32))) + (((((x0 - (((x0.toUInt32 >>> ((1 : Int32).toUInt32 &&& Int32.toUInt32 31)).toInt32) &&& (1431655765 : Int32))) &&& (858993459 : Int32)) + ((((x0 - (((x0.toUInt32 >>> ((1 : Int32).toUInt32 &&& Int32.toUInt32 31)).toInt32) &&& (1431655765 : Int32))).toUInt32 >>> ((2 : Int32).toUInt32 &&& Int32.toUInt32 31)).toInt32) &&& (858993459 : Int32))).toUInt32 >>> ((4 : Int32).toUInt32 &&& Int32.toUInt32 31)).toInt32)) &&& (252645135 : Int32)) + (((((((x0 - (((x0.toUInt32 >>> ((1 : Int32).toUInt32 &&& Int32.toUInt32 31)).toInt32) &&& (1431655765 : Int32))) &&& (858993459 : Int32)) + ((((x0 - (((x0.toUInt32 >>> ((1 : Int32).toUInt32 &&& Int32.toUInt32 31)).toInt32) &&& (1431655765 : Int32))).toUInt32 >>> ((2 : Int32).toUInt32 &&& Int32.toUInt32 31)).toInt32) &&& (858993459 : Int32))) + (((((x0 - (((x0.toUInt32 >>> ((1 : Int32).toUInt32 &&& Int32.toUInt32 31)).toInt32) &&& (1431655765 : Int32))) &&& (858993459 : Int32)) + ((((x0 - (((x0.toUInt32 >>> ((1 : Int32).toUInt32 &&& Int32.toUInt32 31)).toInt32) &&& (1431655765 : Int32))).toUInt32 >>> ((2 : Int32).toUInt32 &&& Int32.toUInt32 31)).toInt32) &&& (858993459 : Int32))).toUInt32 >>> ((4 : Int32).toUInt32 &&& Int32.toUInt32 31)).toInt32)) &&& (252645135 : Int32)).toUInt32 >>> ((8 : Int32).toUInt32 &&& Int32.toUInt32 31)).toInt32)))]) hC d_J_bitCount_40 rfl (by decide) rfl ?_
  refine xi_iload_n hC d_J_bitCount_41 rfl 0 rfl ?_
  refine xi_iload_n hC d_J_bitCount_42 rfl 0 rfl ?_
  refine xi_bipush (v := (16 : Int32)) hC d_J_bitCount_43 (by decide) ?_
  refine xi_iushr hC d_J_bitCount_45 ?_
  refine xi_iadd hC d_J_bitCount_46 ?_
  refine xi_istore_n (lv' := [(0, .int (((((((x0 - (((x0.toUInt32 >>> ((1 : Int32).toUInt32 &&& Int32.toUInt32 31)).toInt32) &&& (1431655765 : Int32))) &&& (858993459 : Int32)) + ((((x0 - (((x0.toUInt32 >>> ((1 : Int32).toUInt32 &&& Int32.toUInt32 31)).toInt32) &&& (1431655765 : Int32))).toUInt32 >>> ((2 : Int32).toUInt32 &&& Int32.toUInt32 31)).toInt32) &&& (858993459 : Int32))) + (((((x0 - (((x0.toUInt32 >>> ((1 : Int32).toUInt32 &&& Int32.toUInt32 31)).toInt32) &&& (1431655765 : Int32))) &&& (858993459 : Int32)) + ((((x0 - (((x0.toUInt32 >>> ((1 : Int32).toUInt32 &&& Int32.toUInt32 31)).toInt32) &&& (1431655765 : Int32))).toUInt32 >>> ((2 : Int32).toUInt32 &&& Int32.toUInt32 31)).toInt32) &&& (858993459 : Int32))).toUInt32 >>> ((4 : Int32).toUInt32 &&& Int32.toUInt32 31)).toInt32)) &&& (252645135 : Int32)) + (((((((x0 - (((x0.toUInt32 >>> ((1 : Int32).toUInt32 &&& Int32.toUInt32 31)).toInt32) &&& (1431655765 : Int32))) &&& (858993459 : Int32)) + ((((x0 - (((x0.toUInt32 >>> ((1 : Int32).toUInt32 &&& Int32.toUInt32 31)).toInt32) &&& (1431655765 : Int32))).toUInt32 >>> ((2 : Int32).toUInt32 &&& Int32.toUInt32 31)).toInt32) &&& (858993459 : Int32))) + (((((x0 - (((x0.toUInt32 >>> ((1 : Int32).toUInt32 &&& Int32.toUInt32 31)).toInt32) &&& (1431655765 : Int32))) &&& (858993459 : Int32)) + ((((x0 - (((x0.toUInt32 >>> ((1 : Int32).toUInt32 &&& Int32.toUInt32 31)).toInt32) &&& (1431655765 : Int32))).toUInt32 >>> ((2 : Int32).toUInt32 &&& Int32.toUInt32 31)).toInt32) &&& (858993459 : Int32))).toUInt32 >>> ((4 : Int32).toUInt32 &&& Int32.toUInt32 31)).toInt32)) &&& (252645135 : Int32)).toUInt32 >>> ((8 : Int32).toUInt32 &&& Int32.toUInt32 31)).toInt32)) + ((((((((x0 - (((x0.toUInt32 >>> ((1 : Int32).toUInt32 &&& Int32.toUInt32 31)).toInt32) &&& (1431655765 : Int32))) &&& (858993459 : Int32)) + ((((x0 - (((x0.toUInt32 >>> ((1 : Int32).toUInt32 &&& Int32.toUInt32 31)).toInt32) &&& (1431655765 : Int32))).toUInt32 >>> ((2 : Int32).toUInt32 &&& Int32.toUInt32 31)).toInt32) &&& (858993459 : Int32))) + (((((x0 - (((x0.toUInt32 >>> ((1 : Int32).toUInt32 &&& Int32.toUInt32 31)).toInt32) &&& (1431655765 : Int32))) &&& (858993459 : Int32)) + ((((x0 - (((x0.toUInt32 >>> ((1 : Int32).toUInt32 &&& Int32.toUInt32 31)).toInt32) &&& (1431655765 : Int32))).toUInt32 >>> ((2 : Int32).toUInt32 &&& Int32.toUInt32 31)).toInt32) &&& (858993459 : Int32))).toUInt32 >>> ((4 : Int32).toUInt32 &&& Int32.toUInt32 31)).toInt32)) &&& (252645135 : Int32)) + (((((((x0 - (((x0.toUInt32 >>> ((1 : Int32).toUInt32 &&& Int32.toUInt32 31)).toInt32) &&& (1431655765 : Int32))) &&& (858993459 : Int32)) + ((((x0 - (((x0.toUInt32 >>> ((1 : Int32).toUInt32 &&& Int32.toUInt32 31)).toInt32) &&& (1431655765 : Int32))).toUInt32 >>> ((2 : Int32).toUInt32 &&& Int32.toUInt32 31)).toInt32) &&& (858993459 : Int32))) + (((((x0 - (((x0.toUInt32 >>> ((1 : Int32).toUInt32 &&& Int32.toUInt32 31)).toInt32) &&& (1431655765 : Int32))) &&& (858993459 : Int32)) + ((((x0 - (((x0.toUInt32 >>> ((1 : Int32).toUInt32 &&& Int32.toUInt32 31)).toInt32) &&& (1431655765 : Int32))).toUInt32 >>> ((2 : Int32).toUInt32 &&& Int32.toUInt32 31)).toInt32) &&& (858993459 : Int32))).toUInt32 >>> ((4 : Int32).toUInt32 &&& Int32.toUInt32 31)).toInt32)) &&& (252645135 : Int32)).toUInt32 >>> ((8 : Int32).toUInt32 &&& Int32.toUInt32 31)).toInt32)).toUInt32 >>> ((16 : Int32).toUInt32 &&& Int32.toUInt32 31)).toInt32)))]) hC d_J_bitCount_47 rfl (by decide) rfl ?_
  refine xi_iload_n hC d_J_bitCount_48 rfl 0 rfl ?_
  refine xi_bipush (v := (63 : Int32)) hC d_J_bitCount_49 (by decide) ?_
  refine xi_iand hC d_J_bitCount_51 ?_
  cases hE
  exact xi_iret hC hr hlk d_J_bitCount_52
set_option maxRecDepth 100000 in
theorem x_J_bitCount {l : Launch} {D : va_G} {x0 : Int32} {n : Nat} {h : XH} {rr : Int32}  (hE : X_J_bitCount x0 h = some rr) : XMet l y_J_bitCount c_J_bitCount 1 (some .int) XTs XCL XNW XAL D ({ frames := 0, cells := 0, slots := 0, locals := 0 } : Room) 0 0 [.int x0] n h (some (.int rr)) n h := by
  refine XMet.mk (by decide) xNW_good xTs_good (Nat.le_of_ble_eq_true rfl) ?_
  intro p e s m args below meth c A ad0 hC hr hlk hnm
  refine xi_locs (lv' := [(0, .int x0)]) [0] rfl ?_
  exact s_J_bitCount_0 hC hr hlk hnm _ n h _ hE

set_option maxRecDepth 100000 in
set_option maxHeartbeats 4000000 in
theorem s_U_dataUsedBy_0 {p : Program} {l : Launch} {e : Env} {s : State} {m : MethodId} {args : Array Value} {below : List Frame} {meth : Method} {c : Code} {D : va_G} {A : Nat → Prop} {ad0 : Nat → Nat} {n0 : Nat} (hC : XC p s m args c c_U_dataUsedBy 2 y_U_dataUsedBy.cls XTs XCL XNW XAL D A) (hr : meth.sig.returnType = some .int) (hlk : meth.locks = false) (hnm : meth.name = y_U_dataUsedBy.name)   (r0 : Nat) (x1 : Int32) (n : Nat) (h : XH) (rr : Int32)  (hE : D_U_dataUsedBy_0  r0 x1 h = some rr) : XW p l e ({ frames := 1, cells := 0, slots := 0, locals := 20 } : Room) s m args below meth c 2 XCL D A ad0 n0 0 0 (MQ below (xQc D XCL n0 ad0 A (some (.int rr)) n h) args s 0 0 A) n h 0 [(0, .ref r0), (1, .int x1)] [] := by
  unfold D_U_dataUsedBy_0 at hE
  refine xi_aload_n hC d_U_dataUsedBy_0 rfl 0 rfl ?_
  obtain ⟨q2, hE1, hE⟩ := xb1_inv hE
  refine xi_get (C := R_U) (T := T_U) (N := 6) (ci := 1) (k := 4) hC rfl iws_U (by decide) xt_7 (by decide) (xgR_inv hE1) d_U_dataUsedBy_1 ?_
  refine xi_iload_n hC d_U_dataUsedBy_4 rfl 1 rfl ?_
  obtain ⟨v3, hE4, hE⟩ := xb1_inv hE
  refine xi_iald hC hE4 d_U_dataUsedBy_5 ?_
  refine xi_aload_n hC d_U_dataUsedBy_6 rfl 0 rfl ?_
  obtain ⟨q6, hE5, hE⟩ := xb1_inv hE
  refine xi_get (C := R_U) (T := T_U) (N := 6) (ci := 1) (k := 5) hC rfl iws_U (by decide) xt_8 (by decide) (xgR_inv hE5) d_U_dataUsedBy_7 ?_
  refine xi_iload_n hC d_U_dataUsedBy_10 rfl 1 rfl ?_
  obtain ⟨v7, hE8, hE⟩ := xb1_inv hE
  refine xi_iald hC hE8 d_U_dataUsedBy_11 ?_
  refine xi_ior hC d_U_dataUsedBy_12 ?_
  obtain ⟨v9, hE10, hE⟩ := xb1_inv hE
  refine xi_callS (as := [.int (v3 ||| v7)]) (st := []) hC (x_J_bitCount hE10) xt_93 xt_94 xt_95 xt_92 ⟨by decide, by decide, (by decide +kernel : (parseMethodDescriptor y_J_bitCount.desc).map (fun d => d.parameters.length) = some 1)⟩ rfl rfl ⟨by decide, by decide⟩ ⟨by decide, by decide⟩ (Nat.le_of_ble_eq_true rfl) rfl d_U_dataUsedBy_13 ?_
  refine xi_stk (st' := [.int v9]) rfl ?_
  cases hE
  exact xi_iret hC hr hlk d_U_dataUsedBy_16
set_option maxRecDepth 100000 in
theorem x_U_dataUsedBy {l : Launch} {D : va_G} {r0 : Nat} {x1 : Int32} {n : Nat} {h : XH} {rr : Int32}  (hE : X_U_dataUsedBy r0 x1 h = some rr) : XMet l y_U_dataUsedBy c_U_dataUsedBy 2 (some .int) XTs XCL XNW XAL D ({ frames := 1, cells := 0, slots := 0, locals := 20 } : Room) 0 0 [.ref r0, .int x1] n h (some (.int rr)) n h := by
  refine XMet.mk (by decide) xNW_good xTs_good (Nat.le_of_ble_eq_true rfl) ?_
  intro p e s m args below meth c A ad0 hC hr hlk hnm
  refine xi_locs (lv' := [(0, .ref r0), (1, .int x1)]) [0, 1] rfl ?_
  exact s_U_dataUsedBy_0 hC hr hlk hnm _ _ n h _ hE

set_option maxRecDepth 100000 in
set_option maxHeartbeats 4000000 in
theorem s_T_area_78 {p : Program} {l : Launch} {e : Env} {s : State} {m : MethodId} {args : Array Value} {below : List Frame} {meth : Method} {c : Code} {D : va_G} {A : Nat → Prop} {ad0 : Nat → Nat} {n0 : Nat} (hC : XC p s m args c c_T_area 5 y_T_area.cls XTs XCL XNW XAL D A) (hr : meth.sig.returnType = some .int) (hlk : meth.locks = false) (hnm : meth.name = y_T_area.name)   (r0 : Nat) (x1 : Int32) (n : Nat) (h : XH) (rr : Int32) (h' : XH) (hE : D_T_area_78  r0 x1 h = some (rr, h')) : XW p l e ({ frames := 2, cells := 0, slots := 0, locals := 43 } : Room) s m args below meth c 5 XCL D A ad0 n0 0 0 (MQ below (xQc D XCL n0 ad0 A (some (.int rr)) n h') args s 0 0 A) n h 78 [(0, .ref r0), (1, .int x1)] [] := by
  unfold D_T_area_78 at hE
  refine xi_aload_n hC d_T_area_78 rfl 0 rfl ?_
  obtain ⟨q2, hE1, hE⟩ := xb1_inv hE
  refine xi_get (C := R_T) (T := T_T) (N := 6) (ci := 0) (k := 0) hC rfl iws_T (by decide) xt_27 (by decide) (xgR_inv hE1) d_T_area_79 ?_
  refine xi_iload_n hC d_T_area_82 rfl 1 rfl ?_
  obtain ⟨hI5, hE⟩ := xchk_inv hE
  obtain ⟨v3, hE4, hE⟩ := xb1_inv hE
  refine xi_callV (as := [.int x1]) (st := []) (C := R_U) (T := T_U) (N := 6) hC (x_U_dataUsedBy hE4) rfl (by decide) hI5 xt_97 xt_98 xt_99 xt_23 xt_96 ⟨by decide, by decide, (by decide +kernel : (parseMethodDescriptor y_U_dataUsedBy.desc).map (fun d => d.parameters.length) = some 1)⟩ rfl rfl ⟨by decide, by decide⟩ ⟨by decide, by decide⟩ (Nat.le_of_ble_eq_true rfl) rfl d_T_area_83 ?_
  refine xi_stk (st' := [.int v3]) rfl ?_
  cases hE
  exact xi_iret hC hr hlk d_T_area_86
set_option maxRecDepth 100000 in
set_option maxHeartbeats 4000000 in
theorem s_T_area_33 {p : Program} {l : Launch} {e : Env} {s : State} {m : MethodId} {args : Array Value} {below : List Frame} {meth : Method} {c : Code} {D : va_G} {A : Nat → Prop} {ad0 : Nat → Nat} {n0 : Nat} (hC : XC p s m args c c_T_area 5 y_T_area.cls XTs XCL XNW XAL D A) (hr : meth.sig.returnType = some .int) (hlk : meth.locks = false) (hnm : meth.name = y_T_area.name)   (r0 : Nat) (x1 : Int32) (x3 : Int32) (s0 : Int32) (n : Nat) (h : XH) (rr : Int32) (h' : XH) (hE : D_T_area_33  r0 x1 x3 s0 h = some (rr, h')) : XW p l e ({ frames := 2, cells := 0, slots := 0, locals := 43 } : Room) s m args below meth c 5 XCL D A ad0 n0 0 0 (MQ below (xQc D XCL n0 ad0 A (some (.int rr)) n h') args s 0 0 A) n h 33 [(0, .ref r0), (1, .int x1), (3, .int x3)] [.int s0] := by
  unfold D_T_area_33 at hE
  refine xi_istore (lv' := [(4, .int s0), (0, .ref r0), (1, .int x1), (3, .int x3)]) hC d_T_area_33 (by decide) rfl ?_
  refine xi_iload hC d_T_area_35 0 rfl ?_
  obtain ⟨v1, hE2, hE⟩ := xb1_inv hE
  refine xi_callS (as := [.int s0]) (st := []) hC (x_T_isDatum hE2) xt_101 xt_102 xt_47 xt_100 ⟨by decide, by decide, (by decide +kernel : (parseMethodDescriptor y_T_isDatum.desc).map (fun d => d.parameters.length) = some 1)⟩ rfl rfl ⟨by decide, by decide⟩ ⟨by decide, by decide⟩ (Nat.le_of_ble_eq_true rfl) rfl d_T_area_37 ?_
  refine xi_stk (st' := [.int v1]) rfl ?_
  refine xi_if_ne (tgt := 46) hC d_T_area_40 (by decide) (fun hz3 => ?_) (fun hz3 => ?_)
  · rw [if_neg hz3] at hE
    refine xi_aload_n hC d_T_area_46 rfl 1 rfl ?_
    refine xi_null hC d_T_area_47 ?_
    obtain ⟨h4, hE5, hE⟩ := xb1_inv hE
    refine xi_put (C := R_T) (T := T_T) (N := 6) (ci := 0) (k := 5) hC ty_T rfl iws_T tok_T nok_T (by decide) xt_53 (by decide) rfl (fun _ => rfl) (fun _ => rfl) hE5 d_T_area_48 ?_
    refine xi_iload_n hC d_T_area_51 rfl 3 rfl ?_
    refine xi_if_eq (tgt := 68) hC d_T_area_52 (by decide) (fun hz6 => ?_) (fun hz6 => ?_)
    · rw [if_pos hz6] at hE
      refine xi_aload_n hC d_T_area_68 rfl 1 rfl ?_
      obtain ⟨q8, hE7, hE⟩ := xb1_inv hE
      refine xi_get (C := R_T) (T := T_T) (N := 6) (ci := 0) (k := 0) hC rfl iws_T (by decide) xt_27 (by decide) (xgR_inv hE7) d_T_area_69 ?_
      refine xi_iload_n hC d_T_area_72 rfl 2 rfl ?_
      refine xi_iload hC d_T_area_73 0 rfl ?_
      obtain ⟨hI11, hE⟩ := xchk_inv hE
      obtain ⟨h9, hE10, hE⟩ := xb1_inv hE
      refine xi_callV (as := [.int x1, .int s0]) (st := []) (C := R_U) (T := T_U) (N := 6) hC (x_U_addRead hE10) rfl (by decide) hI11 xt_104 xt_105 xt_106 xt_23 xt_103 ⟨by decide, by decide, (by decide +kernel : (parseMethodDescriptor y_U_addRead.desc).map (fun d => d.parameters.length) = some 2)⟩ rfl rfl ⟨by decide, by decide⟩ ⟨by decide, by decide⟩ (Nat.le_of_ble_eq_true rfl) rfl d_T_area_75 ?_
      refine xi_stk (st' := []) rfl ?_
      refine xi_locs (lv' := [(0, .ref r0), (1, .int x1)]) [1, 2] rfl ?_
      exact s_T_area_78 hC hr hlk hnm _ _ _ _ _ _ hE
    · rw [if_neg hz6] at hE
      refine xi_aload_n hC d_T_area_55 rfl 1 rfl ?_
      obtain ⟨q13, hE12, hE⟩ := xb1_inv hE
      refine xi_get (C := R_T) (T := T_T) (N := 6) (ci := 0) (k := 0) hC rfl iws_T (by decide) xt_27 (by decide) (xgR_inv hE12) d_T_area_56 ?_
      refine xi_iload_n hC d_T_area_59 rfl 2 rfl ?_
      refine xi_iload hC d_T_area_60 0 rfl ?_
      obtain ⟨hI16, hE⟩ := xchk_inv hE
      obtain ⟨h14, hE15, hE⟩ := xb1_inv hE
      refine xi_callV (as := [.int x1, .int s0]) (st := []) (C := R_U) (T := T_U) (N := 6) hC (x_U_addWrite hE15) rfl (by decide) hI16 xt_108 xt_109 xt_110 xt_23 xt_107 ⟨by decide, by decide, (by decide +kernel : (parseMethodDescriptor y_U_addWrite.desc).map (fun d => d.parameters.length) = some 2)⟩ rfl rfl ⟨by decide, by decide⟩ ⟨by decide, by decide⟩ (Nat.le_of_ble_eq_true rfl) rfl d_T_area_62 ?_
      refine xi_stk (st' := []) rfl ?_
      refine xi_goto (tgt := 78) hC d_T_area_65 (by decide) ?_
      refine xi_locs (lv' := [(0, .ref r0), (1, .int x1)]) [1, 2] rfl ?_
      exact s_T_area_78 hC hr hlk hnm _ _ _ _ _ _ hE
  · rw [if_pos hz3] at hE
    refine xi_bipush (v := (-2 : Int32)) hC d_T_area_43 (by decide) ?_
    cases hE
    exact xi_iret hC hr hlk d_T_area_45
set_option maxRecDepth 100000 in
set_option maxHeartbeats 4000000 in
theorem s_T_area_22 {p : Program} {l : Launch} {e : Env} {s : State} {m : MethodId} {args : Array Value} {below : List Frame} {meth : Method} {c : Code} {D : va_G} {A : Nat → Prop} {ad0 : Nat → Nat} {n0 : Nat} (hC : XC p s m args c c_T_area 5 y_T_area.cls XTs XCL XNW XAL D A) (hr : meth.sig.returnType = some .int) (hlk : meth.locks = false) (hnm : meth.name = y_T_area.name)   (r0 : Nat) (x1 : Int32) (x2 : Int32) (s0 : Int32) (n : Nat) (h : XH) (rr : Int32) (h' : XH) (hE : D_T_area_22  r0 x1 x2 s0 h = some (rr, h')) : XW p l e ({ frames := 2, cells := 0, slots := 0, locals := 43 } : Room) s m args below meth c 5 XCL D A ad0 n0 0 0 (MQ below (xQc D XCL n0 ad0 A (some (.int rr)) n h') args s 0 0 A) n h 22 [(0, .ref r0), (1, .int x1), (2, .int x2)] [.int s0] := by
  unfold D_T_area_22 at hE
  refine xi_istore_n (lv' := [(3, .int s0), (0, .ref r0), (1, .int x1), (2, .int x2)]) hC d_T_area_22 rfl (by decide) rfl ?_
  refine xi_iload_n hC d_T_area_23 rfl 0 rfl ?_
  refine xi_if_eq (tgt := 32) hC d_T_area_24 (by decide) (fun hz1 => ?_) (fun hz1 => ?_)
  · rw [if_pos hz1] at hE
    refine xi_iload_n hC d_T_area_32 rfl 3 rfl ?_
    refine xi_locs (lv' := [(0, .ref r0), (1, .int x1), (3, .int s0)]) [1, 2, 0] rfl ?_
    exact s_T_area_33 hC hr hlk hnm _ _ _ _ _ _ _ _ hE
  · rw [if_neg hz1] at hE
    refine xi_iload_n hC d_T_area_27 rfl 3 rfl ?_
    refine xi_ineg hC d_T_area_28 ?_
    refine xi_goto (tgt := 33) hC d_T_area_29 (by decide) ?_
    refine xi_locs (lv' := [(0, .ref r0), (1, .int x1), (3, .int s0)]) [1, 2, 0] rfl ?_
    exact s_T_area_33 hC hr hlk hnm _ _ _ _ _ _ _ _ hE
set_option maxRecDepth 100000 in
set_option maxHeartbeats 4000000 in
theorem s_T_area_0 {p : Program} {l : Launch} {e : Env} {s : State} {m : MethodId} {args : Array Value} {below : List Frame} {meth : Method} {c : Code} {D : va_G} {A : Nat → Prop} {ad0 : Nat → Nat} {n0 : Nat} (hC : XC p s m args c c_T_area 5 y_T_area.cls XTs XCL XNW XAL D A) (hr : meth.sig.returnType = some .int) (hlk : meth.locks = false) (hnm : meth.name = y_T_area.name)   (r0 : Nat) (x1 : Int32) (x2 : Int32) (n : Nat) (h : XH) (rr : Int32) (h' : XH) (hE : D_T_area_0  r0 x1 x2 h = some (rr, h')) : XW p l e ({ frames := 2, cells := 0, slots := 0, locals := 43 } : Room) s m args below meth c 5 XCL D A ad0 n0 0 0 (MQ below (xQc D XCL n0 ad0 A (some (.int rr)) n h') args s 0 0 A) n h 0 [(0, .ref r0), (1, .int x1), (2, .int x2)] [] := by
  unfold D_T_area_0 at hE
  refine xi_aload_n hC d_T_area_0 rfl 0 rfl ?_
  obtain ⟨q2, hE1, hE⟩ := xb1_inv hE
  refine xi_get (C := R_T) (T := T_T) (N := 6) (ci := 0) (k := 0) hC rfl iws_T (by decide) xt_27 (by decide) (xgR_inv hE1) d_T_area_1 ?_
  refine xi_iload_n hC d_T_area_4 rfl 1 rfl ?_
  obtain ⟨hI5, hE⟩ := xchk_inv hE
  obtain ⟨v3, hE4, hE⟩ := xb1_inv hE
  refine xi_callV (as := [.int x1]) (st := []) (C := R_U) (T := T_U) (N := 6) hC (x_U_has hE4) rfl (by decide) hI5 xt_74 xt_75 xt_76 xt_23 xt_73 ⟨by decide, by decide, (by decide +kernel : (parseMethodDescriptor y_U_has.desc).map (fun d => d.parameters.length) = some 1)⟩ rfl rfl ⟨by decide, by decide⟩ ⟨by decide, by decide⟩ (Nat.le_of_ble_eq_true rfl) rfl d_T_area_5 ?_
  refine xi_stk (st' := [.int v3]) rfl ?_
  refine xi_if_ne (tgt := 13) hC d_T_area_8 (by decide) (fun hz6 => ?_) (fun hz6 => ?_)
  · rw [if_neg hz6] at hE
    refine xi_iload_n hC d_T_area_13 rfl 2 rfl ?_
    refine xi_if_ge (tgt := 21) hC d_T_area_14 (by decide) (fun hz7 => ?_) (fun hz7 => ?_)
    · rw [if_pos hz7] at hE
      refine xi_iconst (v := (0 : Int32)) hC d_T_area_21 (by decide) ?_
      refine xi_locs (lv' := [(0, .ref r0), (1, .int x1), (2, .int x2)]) [0, 1, 2] rfl ?_
      exact s_T_area_22 hC hr hlk hnm _ _ _ _ _ _ _ _ hE
    · rw [if_neg hz7] at hE
      refine xi_iconst (v := (1 : Int32)) hC d_T_area_17 (by decide) ?_
      refine xi_goto (tgt := 22) hC d_T_area_18 (by decide) ?_
      refine xi_locs (lv' := [(0, .ref r0), (1, .int x1), (2, .int x2)]) [0, 1, 2] rfl ?_
      exact s_T_area_22 hC hr hlk hnm _ _ _ _ _ _ _ _ hE
  · rw [if_pos hz6] at hE
    refine xi_iconst (v := (-1 : Int32)) hC d_T_area_11 (by decide) ?_
    cases hE
    exact xi_iret hC hr hlk d_T_area_12
set_option maxRecDepth 100000 in
theorem x_T_area {l : Launch} {D : va_G} {r0 : Nat} {x1 : Int32} {x2 : Int32} {n : Nat} {h : XH} {rr : Int32} {h' : XH} (hE : X_T_area r0 x1 x2 h = some (rr, h')) : XMet l y_T_area c_T_area 5 (some .int) XTs XCL XNW XAL D ({ frames := 2, cells := 0, slots := 0, locals := 43 } : Room) 0 0 [.ref r0, .int x1, .int x2] n h (some (.int rr)) n h' := by
  refine XMet.mk (by decide) xNW_good xTs_good (Nat.le_of_ble_eq_true rfl) ?_
  intro p e s m args below meth c A ad0 hC hr hlk hnm
  refine xi_locs (lv' := [(0, .ref r0), (1, .int x1), (2, .int x2)]) [0, 1, 2] rfl ?_
  exact s_T_area_0 hC hr hlk hnm _ _ _ n h _ _ hE

set_option maxRecDepth 100000 in
set_option maxHeartbeats 4000000 in
theorem s_U_opensTask_50 {p : Program} {l : Launch} {e : Env} {s : State} {m : MethodId} {args : Array Value} {below : List Frame} {meth : Method} {c : Code} {D : va_G} {A : Nat → Prop} {ad0 : Nat → Nat} {n0 : Nat} (hC : XC p s m args c c_U_opensTask 3 y_U_opensTask.cls XTs XCL XNW XAL D A) (hr : meth.sig.returnType = some .boolean) (hlk : meth.locks = false) (hnm : meth.name = y_U_opensTask.name) {k13 : Nat → Int32 → Int32 → XH → Option (Int32)} (n : Nat) (h : XH) (rr : Int32)  (hk13 : ∀ (r0 : Nat) (x1 : Int32) (x2 : Int32), k13 r0 x1 x2 h = some rr → XW p l e ({ frames := 0, cells := 0, slots := 0, locals := 0 } : Room) s m args below meth c 3 XCL D A ad0 n0 0 0 (MQ below (xQc D XCL n0 ad0 A (some (.int rr)) n h) args s 0 0 A) n h 13 [(0, .ref r0), (1, .int x1), (2, .int x2)] []) (r0 : Nat) (x1 : Int32) (x2 : Int32)  (hE : D_U_opensTask_50 k13 r0 x1 x2 h = some rr) : XW p l e ({ frames := 0, cells := 0, slots := 0, locals := 0 } : Room) s m args below meth c 3 XCL D A ad0 n0 0 0 (MQ below (xQc D XCL n0 ad0 A (some (.int rr)) n h) args s 0 0 A) n h 50 [(0, .ref r0), (1, .int x1), (2, .int x2)] [] := by
  unfold D_U_opensTask_50 at hE
  refine xi_iinc (v := x2 + 1) (lv' := [(2, .int (x2 + 1)), (0, .ref r0), (1, .int x1)]) hC d_U_opensTask_50 2 rfl rfl (by decide) rfl ?_
  refine xi_goto (tgt := 13) hC d_U_opensTask_53 (by decide) ?_
  refine xi_locs (lv' := [(0, .ref r0), (1, .int x1), (2, .int (x2 + 1))]) [1, 2, 0] rfl ?_
  exact hk13 _ _ _ hE
set_option maxRecDepth 100000 in
set_option maxHeartbeats 4000000 in
theorem s_U_opensTask_13 {p : Program} {l : Launch} {e : Env} {s : State} {m : MethodId} {args : Array Value} {below : List Frame} {meth : Method} {c : Code} {D : va_G} {A : Nat → Prop} {ad0 : Nat → Nat} {n0 : Nat} (hC : XC p s m args c c_U_opensTask 3 y_U_opensTask.cls XTs XCL XNW XAL D A) (hr : meth.sig.returnType = some .boolean) (hlk : meth.locks = false) (hnm : meth.name = y_U_opensTask.name)   : ∀ (f : Nat) (r0 : Nat) (x1 : Int32) (x2 : Int32) (n : Nat) (h : XH) (rr : Int32) , D_U_opensTask_13  f r0 x1 x2 h = some rr → XW p l e ({ frames := 0, cells := 0, slots := 0, locals := 0 } : Room) s m args below meth c 3 XCL D A ad0 n0 0 0 (MQ below (xQc D XCL n0 ad0 A (some (.int rr)) n h) args s 0 0 A) n h 13 [(0, .ref r0), (1, .int x1), (2, .int x2)] [] := by
  intro f
  induction f with
  | zero =>
    intro r0 x1 x2 n h rr hE
    exact absurd hE (by simp [D_U_opensTask_13])
  | succ fu ih =>
    intro r0 x1 x2 n h rr hE
    simp only [D_U_opensTask_13] at hE
    refine xi_iload_n hC d_U_opensTask_13 rfl 2 rfl ?_
    refine xi_iload_n hC d_U_opensTask_14 rfl 1 rfl ?_
    refine xi_icmp_ge (tgt := 56) hC d_U_opensTask_15 (by decide) (fun hz1 => ?_) (fun hz1 => ?_)
    · rw [if_pos hz1] at hE
      refine xi_iconst (v := (1 : Int32)) hC d_U_opensTask_56 (by decide) ?_
      cases hE
      exact xi_zret hC hr (by decide) hlk d_U_opensTask_57
    · rw [if_neg hz1] at hE
      refine xi_aload_n hC d_U_opensTask_18 rfl 0 rfl ?_
      obtain ⟨q3, hE2, hE⟩ := xb1_inv hE
      refine xi_get (C := R_U) (T := T_U) (N := 6) (ci := 1) (k := 2) hC rfl iws_U (by decide) xt_5 (by decide) (xgR_inv hE2) d_U_opensTask_19 ?_
      refine xi_iload_n hC d_U_opensTask_22 rfl 2 rfl ?_
      obtain ⟨v4, hE5, hE⟩ := xb1_inv hE
      refine xi_iald hC hE5 d_U_opensTask_23 ?_
      refine xi_aload_n hC d_U_opensTask_24 rfl 0 rfl ?_
      obtain ⟨q7, hE6, hE⟩ := xb1_inv hE
      refine xi_get (C := R_U) (T := T_U) (N := 6) (ci := 1) (k := 2) hC rfl iws_U (by decide) xt_5 (by decide) (xgR_inv hE6) d_U_opensTask_25 ?_
      refine xi_iload_n hC d_U_opensTask_28 rfl 1 rfl ?_
      obtain ⟨v8, hE9, hE⟩ := xb1_inv hE
      refine xi_iald hC hE9 d_U_opensTask_29 ?_
      refine xi_icmp_ne (tgt := 50) hC d_U_opensTask_30 (by decide) (fun hz10 => ?_) (fun hz10 => ?_)
      · rw [if_neg hz10] at hE
        refine xi_locs (lv' := [(0, .ref r0), (1, .int x1), (2, .int x2)]) [0, 1, 2] rfl ?_
        exact s_U_opensTask_50 hC hr hlk hnm _ _ _ (fun y0 y1 y2 z => ih y0 y1 y2 _ _ _ z) _ _ _ hE
      · rw [if_pos hz10] at hE
        refine xi_aload_n hC d_U_opensTask_33 rfl 0 rfl ?_
        obtain ⟨q12, hE11, hE⟩ := xb1_inv hE
        refine xi_get (C := R_U) (T := T_U) (N := 6) (ci := 1) (k := 1) hC rfl iws_U (by decide) xt_4 (by decide) (xgR_inv hE11) d_U_opensTask_34 ?_
        refine xi_iload_n hC d_U_opensTask_37 rfl 2 rfl ?_
        obtain ⟨v13, hE14, hE⟩ := xb1_inv hE
        refine xi_iald hC hE14 d_U_opensTask_38 ?_
        refine xi_aload_n hC d_U_opensTask_39 rfl 0 rfl ?_
        obtain ⟨q16, hE15, hE⟩ := xb1_inv hE
        refine xi_get (C := R_U) (T := T_U) (N := 6) (ci := 1) (k := 1) hC rfl iws_U (by decide) xt_4 (by decide) (xgR_inv hE15) d_U_opensTask_40 ?_
        refine xi_iload_n hC d_U_opensTask_43 rfl 1 rfl ?_
        obtain ⟨v17, hE18, hE⟩ := xb1_inv hE
        refine xi_iald hC hE18 d_U_opensTask_44 ?_
        refine xi_icmp_ne (tgt := 50) hC d_U_opensTask_45 (by decide) (fun hz19 => ?_) (fun hz19 => ?_)
        · rw [if_neg hz19] at hE
          refine xi_locs (lv' := [(0, .ref r0), (1, .int x1), (2, .int x2)]) [0, 1, 2] rfl ?_
          exact s_U_opensTask_50 hC hr hlk hnm _ _ _ (fun y0 y1 y2 z => ih y0 y1 y2 _ _ _ z) _ _ _ hE
        · rw [if_pos hz19] at hE
          refine xi_iconst (v := (0 : Int32)) hC d_U_opensTask_48 (by decide) ?_
          cases hE
          exact xi_zret hC hr (by decide) hlk d_U_opensTask_49
set_option maxRecDepth 100000 in
set_option maxHeartbeats 4000000 in
theorem s_U_opensTask_0 {p : Program} {l : Launch} {e : Env} {s : State} {m : MethodId} {args : Array Value} {below : List Frame} {meth : Method} {c : Code} {D : va_G} {A : Nat → Prop} {ad0 : Nat → Nat} {n0 : Nat} (hC : XC p s m args c c_U_opensTask 3 y_U_opensTask.cls XTs XCL XNW XAL D A) (hr : meth.sig.returnType = some .boolean) (hlk : meth.locks = false) (hnm : meth.name = y_U_opensTask.name)   (r0 : Nat) (x1 : Int32) (n : Nat) (h : XH) (rr : Int32)  (hE : D_U_opensTask_0  r0 x1 h = some rr) : XW p l e ({ frames := 0, cells := 0, slots := 0, locals := 0 } : Room) s m args below meth c 3 XCL D A ad0 n0 0 0 (MQ below (xQc D XCL n0 ad0 A (some (.int rr)) n h) args s 0 0 A) n h 0 [(0, .ref r0), (1, .int x1)] [] := by
  unfold D_U_opensTask_0 at hE
  refine xi_aload_n hC d_U_opensTask_0 rfl 0 rfl ?_
  obtain ⟨q2, hE1, hE⟩ := xb1_inv hE
  refine xi_get (C := R_U) (T := T_U) (N := 6) (ci := 1) (k := 1) hC rfl iws_U (by decide) xt_4 (by decide) (xgR_inv hE1) d_U_opensTask_1 ?_
  refine xi_iload_n hC d_U_opensTask_4 rfl 1 rfl ?_
  obtain ⟨v3, hE4, hE⟩ := xb1_inv hE
  refine xi_iald hC hE4 d_U_opensTask_5 ?_
  refine xi_if_ne (tgt := 11) hC d_U_opensTask_6 (by decide) (fun hz5 => ?_) (fun hz5 => ?_)
  · rw [if_neg hz5] at hE
    refine xi_iconst (v := (1 : Int32)) hC d_U_opensTask_11 (by decide) ?_
    refine xi_istore_n (lv' := [(2, .int (1 : Int32)), (0, .ref r0), (1, .int x1)]) hC d_U_opensTask_12 rfl (by decide) rfl ?_
    refine xi_locs (lv' := [(0, .ref r0), (1, .int x1), (2, .int (1 : Int32))]) [1, 2, 0] rfl ?_
    exact s_U_opensTask_13 hC hr hlk hnm 5000 _ _ _ _ _ _ hE
  · rw [if_pos hz5] at hE
    refine xi_iconst (v := (1 : Int32)) hC d_U_opensTask_9 (by decide) ?_
    cases hE
    exact xi_zret hC hr (by decide) hlk d_U_opensTask_10
set_option maxRecDepth 100000 in
theorem x_U_opensTask {l : Launch} {D : va_G} {r0 : Nat} {x1 : Int32} {n : Nat} {h : XH} {rr : Int32}  (hE : X_U_opensTask r0 x1 h = some rr) : XMet l y_U_opensTask c_U_opensTask 3 (some .boolean) XTs XCL XNW XAL D ({ frames := 0, cells := 0, slots := 0, locals := 0 } : Room) 0 0 [.ref r0, .int x1] n h (some (.int rr)) n h := by
  refine XMet.mk (by decide) xNW_good xTs_good (Nat.le_of_ble_eq_true rfl) ?_
  intro p e s m args below meth c A ad0 hC hr hlk hnm
  refine xi_locs (lv' := [(0, .ref r0), (1, .int x1)]) [0, 1] rfl ?_
  exact s_U_opensTask_0 hC hr hlk hnm _ _ n h _ hE

set_option maxRecDepth 100000 in
set_option maxHeartbeats 4000000 in
theorem s_U_tasksOn_33 {p : Program} {l : Launch} {e : Env} {s : State} {m : MethodId} {args : Array Value} {below : List Frame} {meth : Method} {c : Code} {D : va_G} {A : Nat → Prop} {ad0 : Nat → Nat} {n0 : Nat} (hC : XC p s m args c c_U_tasksOn 4 y_U_tasksOn.cls XTs XCL XNW XAL D A) (hr : meth.sig.returnType = some .int) (hlk : meth.locks = false) (hnm : meth.name = y_U_tasksOn.name) {k4 : Nat → Int32 → Int32 → Int32 → XH → Option (Int32)} (n : Nat) (h : XH) (rr : Int32)  (hk4 : ∀ (r0 : Nat) (x1 : Int32) (x2 : Int32) (x3 : Int32), k4 r0 x1 x2 x3 h = some rr → XW p l e ({ frames := 1, cells := 0, slots := 0, locals := 22 } : Room) s m args below meth c 4 XCL D A ad0 n0 0 0 (MQ below (xQc D XCL n0 ad0 A (some (.int rr)) n h) args s 0 0 A) n h 4 [(0, .ref r0), (1, .int x1), (2, .int x2), (3, .int x3)] []) (r0 : Nat) (x1 : Int32) (x2 : Int32) (x3 : Int32)  (hE : D_U_tasksOn_33 k4 r0 x1 x2 x3 h = some rr) : XW p l e ({ frames := 1, cells := 0, slots := 0, locals := 22 } : Room) s m args below meth c 4 XCL D A ad0 n0 0 0 (MQ below (xQc D XCL n0 ad0 A (some (.int rr)) n h) args s 0 0 A) n h 33 [(0, .ref r0), (1, .int x1), (2, .int x2), (3, .int x3)] [] := by
  unfold D_U_tasksOn_33 at hE
  refine xi_iinc (v := x3 + 1) (lv' := [(3, .int (x3 + 1)), (0, .ref r0), (1, .int x1), (2, .int x2)]) hC d_U_tasksOn_33 3 rfl rfl (by decide) rfl ?_
  refine xi_goto (tgt := 4) hC d_U_tasksOn_36 (by decide) ?_
  refine xi_locs (lv' := [(0, .ref r0), (1, .int x1), (2, .int x2), (3, .int (x3 + 1))]) [1, 2, 3, 0] rfl ?_
  exact hk4 _ _ _ _ hE
set_option maxRecDepth 100000 in
set_option maxHeartbeats 4000000 in
theorem s_U_tasksOn_4 {p : Program} {l : Launch} {e : Env} {s : State} {m : MethodId} {args : Array Value} {below : List Frame} {meth : Method} {c : Code} {D : va_G} {A : Nat → Prop} {ad0 : Nat → Nat} {n0 : Nat} (hC : XC p s m args c c_U_tasksOn 4 y_U_tasksOn.cls XTs XCL XNW XAL D A) (hr : meth.sig.returnType = some .int) (hlk : meth.locks = false) (hnm : meth.name = y_U_tasksOn.name)   : ∀ (f : Nat) (r0 : Nat) (x1 : Int32) (x2 : Int32) (x3 : Int32) (n : Nat) (h : XH) (rr : Int32) , D_U_tasksOn_4  f r0 x1 x2 x3 h = some rr → XW p l e ({ frames := 1, cells := 0, slots := 0, locals := 22 } : Room) s m args below meth c 4 XCL D A ad0 n0 0 0 (MQ below (xQc D XCL n0 ad0 A (some (.int rr)) n h) args s 0 0 A) n h 4 [(0, .ref r0), (1, .int x1), (2, .int x2), (3, .int x3)] [] := by
  intro f
  induction f with
  | zero =>
    intro r0 x1 x2 x3 n h rr hE
    exact absurd hE (by simp [D_U_tasksOn_4])
  | succ fu ih =>
    intro r0 x1 x2 x3 n h rr hE
    simp only [D_U_tasksOn_4] at hE
    refine xi_iload_n hC d_U_tasksOn_4 rfl 3 rfl ?_
    refine xi_aload_n hC d_U_tasksOn_5 rfl 0 rfl ?_
    obtain ⟨v2, hE1, hE⟩ := xb1_inv hE
    refine xi_get (C := R_U) (T := T_U) (N := 6) (ci := 1) (k := 0) hC rfl iws_U (by decide) xt_43 (by decide) (xgI_inv hE1) d_U_tasksOn_6 ?_
    refine xi_icmp_gt (tgt := 39) hC d_U_tasksOn_9 (by decide) (fun hz3 => ?_) (fun hz3 => ?_)
    · rw [if_pos hz3] at hE
      refine xi_iload_n hC d_U_tasksOn_39 rfl 2 rfl ?_
      cases hE
      exact xi_iret hC hr hlk d_U_tasksOn_40
    · rw [if_neg hz3] at hE
      refine xi_aload_n hC d_U_tasksOn_12 rfl 0 rfl ?_
      obtain ⟨q5, hE4, hE⟩ := xb1_inv hE
      refine xi_get (C := R_U) (T := T_U) (N := 6) (ci := 1) (k := 2) hC rfl iws_U (by decide) xt_5 (by decide) (xgR_inv hE4) d_U_tasksOn_13 ?_
      refine xi_iload_n hC d_U_tasksOn_16 rfl 3 rfl ?_
      obtain ⟨v6, hE7, hE⟩ := xb1_inv hE
      refine xi_iald hC hE7 d_U_tasksOn_17 ?_
      refine xi_iload_n hC d_U_tasksOn_18 rfl 1 rfl ?_
      refine xi_icmp_ne (tgt := 33) hC d_U_tasksOn_19 (by decide) (fun hz8 => ?_) (fun hz8 => ?_)
      · rw [if_neg hz8] at hE
        refine xi_locs (lv' := [(0, .ref r0), (1, .int x1), (2, .int x2), (3, .int x3)]) [0, 1, 2, 3] rfl ?_
        exact s_U_tasksOn_33 hC hr hlk hnm _ _ _ (fun y0 y1 y2 y3 z => ih y0 y1 y2 y3 _ _ _ z) _ _ _ _ hE
      · rw [if_pos hz8] at hE
        refine xi_aload_n hC d_U_tasksOn_22 rfl 0 rfl ?_
        refine xi_iload_n hC d_U_tasksOn_23 rfl 3 rfl ?_
        obtain ⟨hI11, hE⟩ := xchk_inv hE
        obtain ⟨v9, hE10, hE⟩ := xb1_inv hE
        refine xi_callV (as := [.int x3]) (st := []) (C := R_U) (T := T_U) (N := 6) hC (x_U_opensTask hE10) rfl (by decide) hI11 xt_112 xt_113 xt_114 xt_23 xt_111 ⟨by decide, by decide, (by decide +kernel : (parseMethodDescriptor y_U_opensTask.desc).map (fun d => d.parameters.length) = some 1)⟩ rfl rfl ⟨by decide, by decide⟩ ⟨by decide, by decide⟩ (Nat.le_of_ble_eq_true rfl) rfl d_U_tasksOn_24 ?_
        refine xi_stk (st' := [.int v9]) rfl ?_
        refine xi_if_eq (tgt := 33) hC d_U_tasksOn_27 (by decide) (fun hz12 => ?_) (fun hz12 => ?_)
        · rw [if_pos hz12] at hE
          refine xi_locs (lv' := [(0, .ref r0), (1, .int x1), (2, .int x2), (3, .int x3)]) [0, 1, 2, 3] rfl ?_
          exact s_U_tasksOn_33 hC hr hlk hnm _ _ _ (fun y0 y1 y2 y3 z => ih y0 y1 y2 y3 _ _ _ z) _ _ _ _ hE
        · rw [if_neg hz12] at hE
          refine xi_iinc (v := x2 + 1) (lv' := [(2, .int (x2 + 1)), (0, .ref r0), (1, .int x1), (3, .int x3)]) hC d_U_tasksOn_30 2 rfl rfl (by decide) rfl ?_
          refine xi_locs (lv' := [(0, .ref r0), (1, .int x1), (2, .int (x2 + 1)), (3, .int x3)]) [1, 2, 0, 3] rfl ?_
          exact s_U_tasksOn_33 hC hr hlk hnm _ _ _ (fun y0 y1 y2 y3 z => ih y0 y1 y2 y3 _ _ _ z) _ _ _ _ hE
set_option maxRecDepth 100000 in
set_option maxHeartbeats 4000000 in
theorem s_U_tasksOn_0 {p : Program} {l : Launch} {e : Env} {s : State} {m : MethodId} {args : Array Value} {below : List Frame} {meth : Method} {c : Code} {D : va_G} {A : Nat → Prop} {ad0 : Nat → Nat} {n0 : Nat} (hC : XC p s m args c c_U_tasksOn 4 y_U_tasksOn.cls XTs XCL XNW XAL D A) (hr : meth.sig.returnType = some .int) (hlk : meth.locks = false) (hnm : meth.name = y_U_tasksOn.name)   (r0 : Nat) (x1 : Int32) (n : Nat) (h : XH) (rr : Int32)  (hE : D_U_tasksOn_0  r0 x1 h = some rr) : XW p l e ({ frames := 1, cells := 0, slots := 0, locals := 22 } : Room) s m args below meth c 4 XCL D A ad0 n0 0 0 (MQ below (xQc D XCL n0 ad0 A (some (.int rr)) n h) args s 0 0 A) n h 0 [(0, .ref r0), (1, .int x1)] [] := by
  unfold D_U_tasksOn_0 at hE
  refine xi_iconst (v := (0 : Int32)) hC d_U_tasksOn_0 (by decide) ?_
  refine xi_istore_n (lv' := [(2, .int (0 : Int32)), (0, .ref r0), (1, .int x1)]) hC d_U_tasksOn_1 rfl (by decide) rfl ?_
  refine xi_iconst (v := (1 : Int32)) hC d_U_tasksOn_2 (by decide) ?_
  refine xi_istore_n (lv' := [(3, .int (1 : Int32)), (2, .int (0 : Int32)), (0, .ref r0), (1, .int x1)]) hC d_U_tasksOn_3 rfl (by decide) rfl ?_
  refine xi_locs (lv' := [(0, .ref r0), (1, .int x1), (2, .int (0 : Int32)), (3, .int (1 : Int32))]) [2, 3, 1, 0] rfl ?_
  exact s_U_tasksOn_4 hC hr hlk hnm 5000 _ _ _ _ _ _ _ hE
set_option maxRecDepth 100000 in
theorem x_U_tasksOn {l : Launch} {D : va_G} {r0 : Nat} {x1 : Int32} {n : Nat} {h : XH} {rr : Int32}  (hE : X_U_tasksOn r0 x1 h = some rr) : XMet l y_U_tasksOn c_U_tasksOn 4 (some .int) XTs XCL XNW XAL D ({ frames := 1, cells := 0, slots := 0, locals := 22 } : Room) 0 0 [.ref r0, .int x1] n h (some (.int rr)) n h := by
  refine XMet.mk (by decide) xNW_good xTs_good (Nat.le_of_ble_eq_true rfl) ?_
  intro p e s m args below meth c A ad0 hC hr hlk hnm
  refine xi_locs (lv' := [(0, .ref r0), (1, .int x1)]) [0, 1] rfl ?_
  exact s_U_tasksOn_0 hC hr hlk hnm _ _ n h _ hE

set_option maxRecDepth 100000 in
set_option maxHeartbeats 4000000 in
theorem s_T_nextPlan_0 {p : Program} {l : Launch} {e : Env} {s : State} {m : MethodId} {args : Array Value} {below : List Frame} {meth : Method} {c : Code} {D : va_G} {A : Nat → Prop} {ad0 : Nat → Nat} {n0 : Nat} (hC : XC p s m args c c_T_nextPlan 2 y_T_nextPlan.cls XTs XCL XNW XAL D A) (hr : meth.sig.returnType = some (.object "TaskBuild$Plan")) (hlk : meth.locks = false) (hnm : meth.name = y_T_nextPlan.name)   (r0 : Nat) (n : Nat) (h : XH) (rr : Nat) (n' : Nat) (h' : XH) (hE : D_T_nextPlan_0  r0 n h = some (rr, n', h')) : XW p l e ({ frames := 2, cells := 6, slots := 131, locals := 40 } : Room) s m args below meth c 2 XCL D A ad0 n0 0 0 (MQ below (xQc D XCL n0 ad0 A (some (.ref rr)) n' h') args s 6 131 A) n h 0 [(0, .ref r0)] [] := by
  unfold D_T_nextPlan_0 at hE
  refine xi_aload_n hC d_T_nextPlan_0 rfl 0 rfl ?_
  obtain ⟨v2, hE1, hE⟩ := xb1_inv hE
  refine xi_get (C := R_T) (T := T_T) (N := 6) (ci := 0) (k := 3) hC rfl iws_T (by decide) xt_115 (by decide) (xgI_inv hE1) d_T_nextPlan_1 ?_
  refine xi_aload_n hC d_T_nextPlan_4 rfl 0 rfl ?_
  obtain ⟨q4, hE3, hE⟩ := xb1_inv hE
  refine xi_get (C := R_T) (T := T_T) (N := 6) (ci := 0) (k := 2) hC rfl iws_T (by decide) xt_36 (by decide) (xgR_inv hE3) d_T_nextPlan_5 ?_
  obtain ⟨v5, hE6, hE⟩ := xb1_inv hE
  refine xi_alen hC hE6 d_T_nextPlan_8 ?_
  refine xi_icmp_lt (tgt := 17) hC d_T_nextPlan_9 (by decide) (fun hz7 => ?_) (fun hz7 => ?_)
  · rw [if_pos hz7] at hE
    obtain ⟨h8, hE9, hE⟩ := xb1_inv hE
    cases hE9
    refine xi_new (C := R_P) (T := T_P) (N := 6) (ci := 3) (fs := [.int 0, .null, .null, .null, .null, .null]) hC ty_P rfl iws_P tok_P xt_35 xt_37 xt_38 dfl_P (fun _ => rfl) xl0_P (by decide) (by decide) d_T_nextPlan_17 ?_
    refine xi_dup hC d_T_nextPlan_20 rfl ?_
    obtain ⟨n10, h11, hE12, hE⟩ := xb2_inv hE
    refine xi_callI (as := []) (st := [.ref (n + 1)]) hC (x_P_init hE12) xt_40 xt_41 xt_38 xt_39 rfl ⟨by decide, by decide, (by decide +kernel : (parseMethodDescriptor y_P_init.desc).map (fun d => d.parameters.length) = some 0)⟩ rfl rfl ⟨by decide, by decide⟩ ⟨by decide, by decide⟩ (Nat.le_of_ble_eq_true rfl) rfl d_T_nextPlan_21 ?_
    refine xi_astore_n (lv' := [(1, .ref (n + 1)), (0, .ref r0)]) hC d_T_nextPlan_24 rfl (by decide) rfl ?_
    refine xi_aload_n hC d_T_nextPlan_25 rfl 1 rfl ?_
    obtain ⟨q14, hE13, hE⟩ := xb1_inv hE
    refine xi_get (C := R_T) (T := T_T) (N := 6) (ci := 0) (k := 2) hC rfl iws_T (by decide) xt_36 (by decide) (xgR_inv hE13) d_T_nextPlan_26 ?_
    refine xi_aload_n hC d_T_nextPlan_29 rfl 1 rfl ?_
    obtain ⟨v16, hE15, hE⟩ := xb1_inv hE
    refine xi_get (C := R_T) (T := T_T) (N := 6) (ci := 0) (k := 3) hC rfl iws_T (by decide) xt_115 (by decide) (xgI_inv hE15) d_T_nextPlan_30 ?_
    refine xi_aload_n hC d_T_nextPlan_33 rfl 0 rfl ?_
    obtain ⟨h17, hE18, hE⟩ := xb1_inv hE
    refine xi_aast (T := T_P) (N0 := 6) hC rfl (by decide) hE18 d_T_nextPlan_34 ?_
    refine xi_aload_n hC d_T_nextPlan_35 rfl 1 rfl ?_
    refine xi_dup hC d_T_nextPlan_36 rfl ?_
    obtain ⟨v20, hE19, hE⟩ := xb1_inv hE
    refine xi_get (C := R_T) (T := T_T) (N := 6) (ci := 0) (k := 3) hC rfl iws_T (by decide) xt_115 (by decide) (xgI_inv hE19) d_T_nextPlan_37 ?_
    refine xi_iconst (v := (1 : Int32)) hC d_T_nextPlan_40 (by decide) ?_
    refine xi_iadd hC d_T_nextPlan_41 ?_
    obtain ⟨h21, hE22, hE⟩ := xb1_inv hE
    refine xi_put (C := R_T) (T := T_T) (N := 6) (ci := 0) (k := 3) hC ty_T rfl iws_T tok_T nok_T (by decide) xt_115 (by decide) rfl (fun _ => rfl) (fun _ => rfl) hE22 d_T_nextPlan_42 ?_
    refine xi_aload_n hC d_T_nextPlan_45 rfl 0 rfl ?_
    cases hE
    exact xi_aret hC hr hlk d_T_nextPlan_46
  · rw [if_neg hz7] at hE
    refine xi_aload_n hC d_T_nextPlan_12 rfl 0 rfl ?_
    obtain ⟨q24, hE23, hE⟩ := xb1_inv hE
    refine xi_get (C := R_T) (T := T_T) (N := 6) (ci := 0) (k := 4) hC rfl iws_T (by decide) xt_42 (by decide) (xgR_inv hE23) d_T_nextPlan_13 ?_
    cases hE
    refine xi_widen (k1 := 6) (k2 := 131) (by decide) (by decide) ?_
    exact xi_aret hC hr hlk d_T_nextPlan_16
set_option maxRecDepth 100000 in
theorem x_T_nextPlan {l : Launch} {D : va_G} {r0 : Nat} {n : Nat} {h : XH} {rr : Nat} {n' : Nat} {h' : XH} (hE : X_T_nextPlan r0 n h = some (rr, n', h')) : XMet l y_T_nextPlan c_T_nextPlan 2 (some (.object "TaskBuild$Plan")) XTs XCL XNW XAL D ({ frames := 2, cells := 6, slots := 131, locals := 40 } : Room) 6 131 [.ref r0] n h (some (.ref rr)) n' h' := by
  refine XMet.mk (by decide) xNW_good xTs_good (Nat.le_of_ble_eq_true rfl) ?_
  intro p e s m args below meth c A ad0 hC hr hlk hnm
  refine xi_locs (lv' := [(0, .ref r0)]) [0] rfl ?_
  exact s_T_nextPlan_0 hC hr hlk hnm _ n h _ _ _ hE

set_option maxRecDepth 100000 in
set_option maxHeartbeats 4000000 in
theorem s_U_group_43 {p : Program} {l : Launch} {e : Env} {s : State} {m : MethodId} {args : Array Value} {below : List Frame} {meth : Method} {c : Code} {D : va_G} {A : Nat → Prop} {ad0 : Nat → Nat} {n0 : Nat} (hC : XC p s m args c c_U_group 5 y_U_group.cls XTs XCL XNW XAL D A) (hr : meth.sig.returnType = some .int) (hlk : meth.locks = false) (hnm : meth.name = y_U_group.name) {k5 : Nat → Int32 → Int32 → Int32 → Int32 → XH → Option (Int32)} (n : Nat) (h : XH) (rr : Int32)  (hk5 : ∀ (r0 : Nat) (x1 : Int32) (x2 : Int32) (x3 : Int32) (x4 : Int32), k5 r0 x1 x2 x3 x4 h = some rr → XW p l e ({ frames := 0, cells := 0, slots := 0, locals := 0 } : Room) s m args below meth c 5 XCL D A ad0 n0 0 0 (MQ below (xQc D XCL n0 ad0 A (some (.int rr)) n h) args s 0 0 A) n h 5 [(0, .ref r0), (1, .int x1), (2, .int x2), (3, .int x3), (4, .int x4)] []) (r0 : Nat) (x1 : Int32) (x2 : Int32) (x3 : Int32) (x4 : Int32)  (hE : D_U_group_43 k5 r0 x1 x2 x3 x4 h = some rr) : XW p l e ({ frames := 0, cells := 0, slots := 0, locals := 0 } : Room) s m args below meth c 5 XCL D A ad0 n0 0 0 (MQ below (xQc D XCL n0 ad0 A (some (.int rr)) n h) args s 0 0 A) n h 43 [(0, .ref r0), (1, .int x1), (2, .int x2), (3, .int x3), (4, .int x4)] [] := by
  unfold D_U_group_43 at hE
  refine xi_iinc (v := x4 + 1) (lv' := [(4, .int (x4 + 1)), (0, .ref r0), (1, .int x1), (2, .int x2), (3, .int x3)]) hC d_U_group_43 4 rfl rfl (by decide) rfl ?_
  refine xi_goto (tgt := 5) hC d_U_group_46 (by decide) ?_
  refine xi_locs (lv' := [(0, .ref r0), (1, .int x1), (2, .int x2), (3, .int x3), (4, .int (x4 + 1))]) [1, 2, 3, 4, 0] rfl ?_
  exact hk5 _ _ _ _ _ hE
set_option maxRecDepth 100000 in
set_option maxHeartbeats 4000000 in
theorem s_U_group_5 {p : Program} {l : Launch} {e : Env} {s : State} {m : MethodId} {args : Array Value} {below : List Frame} {meth : Method} {c : Code} {D : va_G} {A : Nat → Prop} {ad0 : Nat → Nat} {n0 : Nat} (hC : XC p s m args c c_U_group 5 y_U_group.cls XTs XCL XNW XAL D A) (hr : meth.sig.returnType = some .int) (hlk : meth.locks = false) (hnm : meth.name = y_U_group.name)   : ∀ (f : Nat) (r0 : Nat) (x1 : Int32) (x2 : Int32) (x3 : Int32) (x4 : Int32) (n : Nat) (h : XH) (rr : Int32) , D_U_group_5  f r0 x1 x2 x3 x4 h = some rr → XW p l e ({ frames := 0, cells := 0, slots := 0, locals := 0 } : Room) s m args below meth c 5 XCL D A ad0 n0 0 0 (MQ below (xQc D XCL n0 ad0 A (some (.int rr)) n h) args s 0 0 A) n h 5 [(0, .ref r0), (1, .int x1), (2, .int x2), (3, .int x3), (4, .int x4)] [] := by
  intro f
  induction f with
  | zero =>
    intro r0 x1 x2 x3 x4 n h rr hE
    exact absurd hE (by simp [D_U_group_5])
  | succ fu ih =>
    intro r0 x1 x2 x3 x4 n h rr hE
    simp only [D_U_group_5] at hE
    refine xi_iload hC d_U_group_5 4 rfl ?_
    refine xi_aload_n hC d_U_group_7 rfl 0 rfl ?_
    obtain ⟨v2, hE1, hE⟩ := xb1_inv hE
    refine xi_get (C := R_U) (T := T_U) (N := 6) (ci := 1) (k := 0) hC rfl iws_U (by decide) xt_43 (by decide) (xgI_inv hE1) d_U_group_8 ?_
    refine xi_icmp_gt (tgt := 49) hC d_U_group_11 (by decide) (fun hz3 => ?_) (fun hz3 => ?_)
    · rw [if_pos hz3] at hE
      refine xi_iload_n hC d_U_group_49 rfl 3 rfl ?_
      cases hE
      exact xi_iret hC hr hlk d_U_group_50
    · rw [if_neg hz3] at hE
      refine xi_aload_n hC d_U_group_14 rfl 0 rfl ?_
      obtain ⟨q5, hE4, hE⟩ := xb1_inv hE
      refine xi_get (C := R_U) (T := T_U) (N := 6) (ci := 1) (k := 2) hC rfl iws_U (by decide) xt_5 (by decide) (xgR_inv hE4) d_U_group_15 ?_
      refine xi_iload hC d_U_group_18 4 rfl ?_
      obtain ⟨v6, hE7, hE⟩ := xb1_inv hE
      refine xi_iald hC hE7 d_U_group_20 ?_
      refine xi_iload_n hC d_U_group_21 rfl 1 rfl ?_
      refine xi_icmp_ne (tgt := 43) hC d_U_group_22 (by decide) (fun hz8 => ?_) (fun hz8 => ?_)
      · rw [if_neg hz8] at hE
        refine xi_locs (lv' := [(0, .ref r0), (1, .int x1), (2, .int x2), (3, .int x3), (4, .int x4)]) [0, 1, 2, 3, 4] rfl ?_
        exact s_U_group_43 hC hr hlk hnm _ _ _ (fun y0 y1 y2 y3 y4 z => ih y0 y1 y2 y3 y4 _ _ _ z) _ _ _ _ _ hE
      · rw [if_pos hz8] at hE
        refine xi_aload_n hC d_U_group_25 rfl 0 rfl ?_
        obtain ⟨q10, hE9, hE⟩ := xb1_inv hE
        refine xi_get (C := R_U) (T := T_U) (N := 6) (ci := 1) (k := 1) hC rfl iws_U (by decide) xt_4 (by decide) (xgR_inv hE9) d_U_group_26 ?_
        refine xi_iload hC d_U_group_29 4 rfl ?_
        obtain ⟨v11, hE12, hE⟩ := xb1_inv hE
        refine xi_iald hC hE12 d_U_group_31 ?_
        refine xi_iload_n hC d_U_group_32 rfl 2 rfl ?_
        refine xi_icmp_ne (tgt := 43) hC d_U_group_33 (by decide) (fun hz13 => ?_) (fun hz13 => ?_)
        · rw [if_neg hz13] at hE
          refine xi_locs (lv' := [(0, .ref r0), (1, .int x1), (2, .int x2), (3, .int x3), (4, .int x4)]) [0, 1, 2, 3, 4] rfl ?_
          exact s_U_group_43 hC hr hlk hnm _ _ _ (fun y0 y1 y2 y3 y4 z => ih y0 y1 y2 y3 y4 _ _ _ z) _ _ _ _ _ hE
        · rw [if_pos hz13] at hE
          refine xi_iload_n hC d_U_group_36 rfl 3 rfl ?_
          refine xi_iconst (v := (1 : Int32)) hC d_U_group_37 (by decide) ?_
          refine xi_iload hC d_U_group_38 4 rfl ?_
          refine xi_ishl hC d_U_group_40 ?_
          refine xi_ior hC d_U_group_41 ?_
          refine xi_istore_n (lv' := [(3, .int (x3 ||| ((1 : Int32) <<< (x4 &&& 31)))), (0, .ref r0), (1, .int x1), (2, .int x2), (4, .int x4)]) hC d_U_group_42 rfl (by decide) rfl ?_
          refine xi_locs (lv' := [(0, .ref r0), (1, .int x1), (2, .int x2), (3, .int (x3 ||| ((1 : Int32) <<< (x4 &&& 31)))), (4, .int x4)]) [1, 2, 3, 0, 4] rfl ?_
          exact s_U_group_43 hC hr hlk hnm _ _ _ (fun y0 y1 y2 y3 y4 z => ih y0 y1 y2 y3 y4 _ _ _ z) _ _ _ _ _ hE
set_option maxRecDepth 100000 in
set_option maxHeartbeats 4000000 in
theorem s_U_group_0 {p : Program} {l : Launch} {e : Env} {s : State} {m : MethodId} {args : Array Value} {below : List Frame} {meth : Method} {c : Code} {D : va_G} {A : Nat → Prop} {ad0 : Nat → Nat} {n0 : Nat} (hC : XC p s m args c c_U_group 5 y_U_group.cls XTs XCL XNW XAL D A) (hr : meth.sig.returnType = some .int) (hlk : meth.locks = false) (hnm : meth.name = y_U_group.name)   (r0 : Nat) (x1 : Int32) (x2 : Int32) (n : Nat) (h : XH) (rr : Int32)  (hE : D_U_group_0  r0 x1 x2 h = some rr) : XW p l e ({ frames := 0, cells := 0, slots := 0, locals := 0 } : Room) s m args below meth c 5 XCL D A ad0 n0 0 0 (MQ below (xQc D XCL n0 ad0 A (some (.int rr)) n h) args s 0 0 A) n h 0 [(0, .ref r0), (1, .int x1), (2, .int x2)] [] := by
  unfold D_U_group_0 at hE
  refine xi_iconst (v := (0 : Int32)) hC d_U_group_0 (by decide) ?_
  refine xi_istore_n (lv' := [(3, .int (0 : Int32)), (0, .ref r0), (1, .int x1), (2, .int x2)]) hC d_U_group_1 rfl (by decide) rfl ?_
  refine xi_iconst (v := (1 : Int32)) hC d_U_group_2 (by decide) ?_
  refine xi_istore (lv' := [(4, .int (1 : Int32)), (3, .int (0 : Int32)), (0, .ref r0), (1, .int x1), (2, .int x2)]) hC d_U_group_3 (by decide) rfl ?_
  refine xi_locs (lv' := [(0, .ref r0), (1, .int x1), (2, .int x2), (3, .int (0 : Int32)), (4, .int (1 : Int32))]) [2, 3, 4, 1, 0] rfl ?_
  exact s_U_group_5 hC hr hlk hnm 5000 _ _ _ _ _ _ _ _ hE
set_option maxRecDepth 100000 in
theorem x_U_group {l : Launch} {D : va_G} {r0 : Nat} {x1 : Int32} {x2 : Int32} {n : Nat} {h : XH} {rr : Int32}  (hE : X_U_group r0 x1 x2 h = some rr) : XMet l y_U_group c_U_group 5 (some .int) XTs XCL XNW XAL D ({ frames := 0, cells := 0, slots := 0, locals := 0 } : Room) 0 0 [.ref r0, .int x1, .int x2] n h (some (.int rr)) n h := by
  refine XMet.mk (by decide) xNW_good xTs_good (Nat.le_of_ble_eq_true rfl) ?_
  intro p e s m args below meth c A ad0 hC hr hlk hnm
  refine xi_locs (lv' := [(0, .ref r0), (1, .int x1), (2, .int x2)]) [0, 1, 2] rfl ?_
  exact s_U_group_0 hC hr hlk hnm _ _ _ n h _ hE

set_option maxRecDepth 100000 in
set_option maxHeartbeats 4000000 in
theorem s_G_leastFree_29 {p : Program} {l : Launch} {e : Env} {s : State} {m : MethodId} {args : Array Value} {below : List Frame} {meth : Method} {c : Code} {D : va_G} {A : Nat → Prop} {ad0 : Nat → Nat} {n0 : Nat} (hC : XC p s m args c c_G_leastFree 3 y_G_leastFree.cls XTs XCL XNW XAL D A) (hr : meth.sig.returnType = some .int) (hlk : meth.locks = false) (hnm : meth.name = y_G_leastFree.name) {k2 : Nat → Int32 → Int32 → XH → Option (Int32)} (n : Nat) (h : XH) (rr : Int32)  (hk2 : ∀ (r0 : Nat) (x1 : Int32) (x2 : Int32), k2 r0 x1 x2 h = some rr → XW p l e ({ frames := 1, cells := 0, slots := 0, locals := 21 } : Room) s m args below meth c 3 XCL D A ad0 n0 0 0 (MQ below (xQc D XCL n0 ad0 A (some (.int rr)) n h) args s 0 0 A) n h 2 [(0, .ref r0), (1, .int x1), (2, .int x2)] []) (r0 : Nat) (x1 : Int32) (x2 : Int32)  (hE : D_G_leastFree_29 k2 r0 x1 x2 h = some rr) : XW p l e ({ frames := 1, cells := 0, slots := 0, locals := 21 } : Room) s m args below meth c 3 XCL D A ad0 n0 0 0 (MQ below (xQc D XCL n0 ad0 A (some (.int rr)) n h) args s 0 0 A) n h 29 [(0, .ref r0), (1, .int x1), (2, .int x2)] [] := by
  unfold D_G_leastFree_29 at hE
  refine xi_iinc (v := x2 + 1) (lv' := [(2, .int (x2 + 1)), (0, .ref r0), (1, .int x1)]) hC d_G_leastFree_29 2 rfl rfl (by decide) rfl ?_
  refine xi_goto (tgt := 2) hC d_G_leastFree_32 (by decide) ?_
  refine xi_locs (lv' := [(0, .ref r0), (1, .int x1), (2, .int (x2 + 1))]) [1, 2, 0] rfl ?_
  exact hk2 _ _ _ hE
set_option maxRecDepth 100000 in
set_option maxHeartbeats 4000000 in
theorem s_G_leastFree_2 {p : Program} {l : Launch} {e : Env} {s : State} {m : MethodId} {args : Array Value} {below : List Frame} {meth : Method} {c : Code} {D : va_G} {A : Nat → Prop} {ad0 : Nat → Nat} {n0 : Nat} (hC : XC p s m args c c_G_leastFree 3 y_G_leastFree.cls XTs XCL XNW XAL D A) (hr : meth.sig.returnType = some .int) (hlk : meth.locks = false) (hnm : meth.name = y_G_leastFree.name)   : ∀ (f : Nat) (r0 : Nat) (x1 : Int32) (x2 : Int32) (n : Nat) (h : XH) (rr : Int32) , D_G_leastFree_2  f r0 x1 x2 h = some rr → XW p l e ({ frames := 1, cells := 0, slots := 0, locals := 21 } : Room) s m args below meth c 3 XCL D A ad0 n0 0 0 (MQ below (xQc D XCL n0 ad0 A (some (.int rr)) n h) args s 0 0 A) n h 2 [(0, .ref r0), (1, .int x1), (2, .int x2)] [] := by
  intro f
  induction f with
  | zero =>
    intro r0 x1 x2 n h rr hE
    exact absurd hE (by simp [D_G_leastFree_2])
  | succ fu ih =>
    intro r0 x1 x2 n h rr hE
    simp only [D_G_leastFree_2] at hE
    refine xi_iload_n hC d_G_leastFree_2 rfl 2 rfl ?_
    refine xi_bipush (v := (24 : Int32)) hC d_G_leastFree_3 (by decide) ?_
    refine xi_icmp_gt (tgt := 35) hC d_G_leastFree_5 (by decide) (fun hz1 => ?_) (fun hz1 => ?_)
    · rw [if_pos hz1] at hE
      refine xi_iconst (v := (0 : Int32)) hC d_G_leastFree_35 (by decide) ?_
      cases hE
      exact xi_iret hC hr hlk d_G_leastFree_36
    · rw [if_neg hz1] at hE
      refine xi_iload_n hC d_G_leastFree_8 rfl 1 rfl ?_
      refine xi_iload_n hC d_G_leastFree_9 rfl 2 rfl ?_
      obtain ⟨v2, hE3, hE⟩ := xb1_inv hE
      refine xi_callSN (as := [.int x1, .int x2]) (st := []) hC (x_T_isIn hE3) xn_1 xt_59 xt_47 xt_58 ⟨by decide, by decide, (by decide +kernel : (parseMethodDescriptor y_T_isIn.desc).map (fun d => d.parameters.length) = some 2)⟩ rfl rfl ⟨by decide, by decide⟩ ⟨by decide, by decide⟩ (Nat.le_of_ble_eq_true rfl) rfl d_G_leastFree_10 ?_
      refine xi_stk (st' := [.int v2]) rfl ?_
      refine xi_if_eq (tgt := 29) hC d_G_leastFree_13 (by decide) (fun hz4 => ?_) (fun hz4 => ?_)
      · rw [if_pos hz4] at hE
        refine xi_locs (lv' := [(0, .ref r0), (1, .int x1), (2, .int x2)]) [0, 1, 2] rfl ?_
        exact s_G_leastFree_29 hC hr hlk hnm _ _ _ (fun y0 y1 y2 z => ih y0 y1 y2 _ _ _ z) _ _ _ hE
      · rw [if_neg hz4] at hE
        refine xi_aload_n hC d_G_leastFree_16 rfl 0 rfl ?_
        obtain ⟨q6, hE5, hE⟩ := xb1_inv hE
        refine xi_get (C := R_G) (T := T_G) (N := 5) (ci := 2) (k := 1) hC rfl iws_G (by decide) xt_11 (by decide) (xgR_inv hE5) d_G_leastFree_17 ?_
        refine xi_iload_n hC d_G_leastFree_20 rfl 2 rfl ?_
        obtain ⟨v7, hE8, hE⟩ := xb1_inv hE
        refine xi_iald hC hE8 d_G_leastFree_21 ?_
        refine xi_iload_n hC d_G_leastFree_22 rfl 1 rfl ?_
        refine xi_iand hC d_G_leastFree_23 ?_
        refine xi_if_ne (tgt := 29) hC d_G_leastFree_24 (by decide) (fun hz9 => ?_) (fun hz9 => ?_)
        · rw [if_neg hz9] at hE
          refine xi_locs (lv' := [(0, .ref r0), (1, .int x1), (2, .int x2)]) [0, 1, 2] rfl ?_
          exact s_G_leastFree_29 hC hr hlk hnm _ _ _ (fun y0 y1 y2 z => ih y0 y1 y2 _ _ _ z) _ _ _ hE
        · rw [if_pos hz9] at hE
          refine xi_iload_n hC d_G_leastFree_27 rfl 2 rfl ?_
          cases hE
          exact xi_iret hC hr hlk d_G_leastFree_28
set_option maxRecDepth 100000 in
set_option maxHeartbeats 4000000 in
theorem s_G_leastFree_0 {p : Program} {l : Launch} {e : Env} {s : State} {m : MethodId} {args : Array Value} {below : List Frame} {meth : Method} {c : Code} {D : va_G} {A : Nat → Prop} {ad0 : Nat → Nat} {n0 : Nat} (hC : XC p s m args c c_G_leastFree 3 y_G_leastFree.cls XTs XCL XNW XAL D A) (hr : meth.sig.returnType = some .int) (hlk : meth.locks = false) (hnm : meth.name = y_G_leastFree.name)   (r0 : Nat) (x1 : Int32) (n : Nat) (h : XH) (rr : Int32)  (hE : D_G_leastFree_0  r0 x1 h = some rr) : XW p l e ({ frames := 1, cells := 0, slots := 0, locals := 21 } : Room) s m args below meth c 3 XCL D A ad0 n0 0 0 (MQ below (xQc D XCL n0 ad0 A (some (.int rr)) n h) args s 0 0 A) n h 0 [(0, .ref r0), (1, .int x1)] [] := by
  unfold D_G_leastFree_0 at hE
  refine xi_iconst (v := (1 : Int32)) hC d_G_leastFree_0 (by decide) ?_
  refine xi_istore_n (lv' := [(2, .int (1 : Int32)), (0, .ref r0), (1, .int x1)]) hC d_G_leastFree_1 rfl (by decide) rfl ?_
  refine xi_locs (lv' := [(0, .ref r0), (1, .int x1), (2, .int (1 : Int32))]) [1, 2, 0] rfl ?_
  exact s_G_leastFree_2 hC hr hlk hnm 5000 _ _ _ _ _ _ hE
set_option maxRecDepth 100000 in
theorem x_G_leastFree {l : Launch} {D : va_G} {r0 : Nat} {x1 : Int32} {n : Nat} {h : XH} {rr : Int32}  (hE : X_G_leastFree r0 x1 h = some rr) : XMet l y_G_leastFree c_G_leastFree 3 (some .int) XTs XCL XNW XAL D ({ frames := 1, cells := 0, slots := 0, locals := 21 } : Room) 0 0 [.ref r0, .int x1] n h (some (.int rr)) n h := by
  refine XMet.mk (by decide) xNW_good xTs_good (Nat.le_of_ble_eq_true rfl) ?_
  intro p e s m args below meth c A ad0 hC hr hlk hnm
  refine xi_locs (lv' := [(0, .ref r0), (1, .int x1)]) [0, 1] rfl ?_
  exact s_G_leastFree_0 hC hr hlk hnm _ _ n h _ hE

set_option maxRecDepth 100000 in
set_option maxHeartbeats 4000000 in
theorem s_P_addTask_104 {p : Program} {l : Launch} {e : Env} {s : State} {m : MethodId} {args : Array Value} {below : List Frame} {meth : Method} {c : Code} {D : va_G} {A : Nat → Prop} {ad0 : Nat → Nat} {n0 : Nat} (hC : XC p s m args c c_P_addTask 7 y_P_addTask.cls XTs XCL XNW XAL D A) (hr : meth.sig.returnType = none) (hlk : meth.locks = false) (hnm : meth.name = y_P_addTask.name)   (r0 : Nat) (x5 : Int32) (n : Nat) (h : XH) (h' : XH) (hE : D_P_addTask_104  r0 x5 h = some h') : XW p l e ({ frames := 2, cells := 0, slots := 0, locals := 43 } : Room) s m args below meth c 7 XCL D A ad0 n0 0 0 (MQ below (xQc D XCL n0 ad0 A none n h') args s 0 0 A) n h 104 [(0, .ref r0), (5, .int x5)] [] := by
  unfold D_P_addTask_104 at hE
  refine xi_aload_n hC d_P_addTask_104 rfl 0 rfl ?_
  obtain ⟨q2, hE1, hE⟩ := xb1_inv hE
  refine xi_get (C := R_P) (T := T_P) (N := 6) (ci := 3) (k := 5) hC rfl iws_P (by decide) xt_19 (by decide) (xgR_inv hE1) d_P_addTask_105 ?_
  refine xi_aload_n hC d_P_addTask_108 rfl 0 rfl ?_
  obtain ⟨v4, hE3, hE⟩ := xb1_inv hE
  refine xi_get (C := R_P) (T := T_P) (N := 6) (ci := 3) (k := 0) hC rfl iws_P (by decide) xt_116 (by decide) (xgI_inv hE3) d_P_addTask_109 ?_
  refine xi_iconst (v := (1 : Int32)) hC d_P_addTask_112 (by decide) ?_
  refine xi_iadd hC d_P_addTask_113 ?_
  refine xi_iload hC d_P_addTask_114 1 rfl ?_
  obtain ⟨h5, hE6, hE⟩ := xb1_inv hE
  refine xi_iast hC hE6 d_P_addTask_116 ?_
  cases hE
  exact xi_vret hC hr hlk d_P_addTask_117
set_option maxRecDepth 100000 in
set_option maxHeartbeats 4000000 in
theorem s_P_addTask_44 {p : Program} {l : Launch} {e : Env} {s : State} {m : MethodId} {args : Array Value} {below : List Frame} {meth : Method} {c : Code} {D : va_G} {A : Nat → Prop} {ad0 : Nat → Nat} {n0 : Nat} (hC : XC p s m args c c_P_addTask 7 y_P_addTask.cls XTs XCL XNW XAL D A) (hr : meth.sig.returnType = none) (hlk : meth.locks = false) (hnm : meth.name = y_P_addTask.name)   : ∀ (f : Nat) (r0 : Nat) (r3 : Nat) (x4 : Int32) (x5 : Int32) (n : Nat) (h : XH) (h' : XH), D_P_addTask_44  f r0 r3 x4 x5 h = some h' → XW p l e ({ frames := 2, cells := 0, slots := 0, locals := 43 } : Room) s m args below meth c 7 XCL D A ad0 n0 0 0 (MQ below (xQc D XCL n0 ad0 A none n h') args s 0 0 A) n h 44 [(0, .ref r0), (3, .ref r3), (4, .int x4), (5, .int x5)] [] := by
  intro f
  induction f with
  | zero =>
    intro r0 r3 x4 x5 n h h' hE
    exact absurd hE (by simp [D_P_addTask_44])
  | succ fu ih =>
    intro r0 r3 x4 x5 n h h' hE
    simp only [D_P_addTask_44] at hE
    refine xi_iload hC d_P_addTask_44 2 rfl ?_
    refine xi_if_eq (tgt := 104) hC d_P_addTask_46 (by decide) (fun hz1 => ?_) (fun hz1 => ?_)
    · rw [if_pos hz1] at hE
      refine xi_locs (lv' := [(0, .ref r0), (5, .int x5)]) [0, 3] rfl ?_
      exact s_P_addTask_104 hC hr hlk hnm _ _ _ _ _ hE
    · rw [if_neg hz1] at hE
      refine xi_iload hC d_P_addTask_49 3 rfl ?_
      refine xi_aload_n hC d_P_addTask_51 rfl 0 rfl ?_
      obtain ⟨q3, hE2, hE⟩ := xb1_inv hE
      refine xi_get (C := R_P) (T := T_P) (N := 6) (ci := 3) (k := 4) hC rfl iws_P (by decide) xt_18 (by decide) (xgR_inv hE2) d_P_addTask_52 ?_
      obtain ⟨v4, hE5, hE⟩ := xb1_inv hE
      refine xi_alen hC hE5 d_P_addTask_55 ?_
      refine xi_icmp_ge (tgt := 104) hC d_P_addTask_56 (by decide) (fun hz6 => ?_) (fun hz6 => ?_)
      · rw [if_pos hz6] at hE
        refine xi_locs (lv' := [(0, .ref r0), (5, .int x5)]) [0, 3] rfl ?_
        exact s_P_addTask_104 hC hr hlk hnm _ _ _ _ _ hE
      · rw [if_neg hz6] at hE
        refine xi_aload_n hC d_P_addTask_59 rfl 1 rfl ?_
        refine xi_iload hC d_P_addTask_60 2 rfl ?_
        obtain ⟨hI9, hE⟩ := xchk_inv hE
        obtain ⟨v7, hE8, hE⟩ := xb1_inv hE
        refine xi_callV (as := [.int x4]) (st := []) (C := R_G) (T := T_G) (N := 5) hC (x_G_leastFree hE8) rfl (by decide) hI9 xt_118 xt_119 xt_120 xt_30 xt_117 ⟨by decide, by decide, (by decide +kernel : (parseMethodDescriptor y_G_leastFree.desc).map (fun d => d.parameters.length) = some 1)⟩ rfl rfl ⟨by decide, by decide⟩ ⟨by decide, by decide⟩ (Nat.le_of_ble_eq_true rfl) rfl d_P_addTask_62 ?_
        refine xi_stk (st' := [.int v7]) rfl ?_
        refine xi_istore (lv' := [(6, .int v7), (0, .ref r0), (3, .ref r3), (4, .int x4), (5, .int x5)]) hC d_P_addTask_65 (by decide) rfl ?_
        refine xi_aload_n hC d_P_addTask_67 rfl 1 rfl ?_
        obtain ⟨q11, hE10, hE⟩ := xb1_inv hE
        refine xi_get (C := R_P) (T := T_P) (N := 6) (ci := 3) (k := 4) hC rfl iws_P (by decide) xt_18 (by decide) (xgR_inv hE10) d_P_addTask_68 ?_
        refine xi_iload hC d_P_addTask_71 4 rfl ?_
        refine xi_iload hC d_P_addTask_73 0 rfl ?_
        obtain ⟨h12, hE13, hE⟩ := xb1_inv hE
        refine xi_iast hC hE13 d_P_addTask_75 ?_
        refine xi_aload_n hC d_P_addTask_76 rfl 1 rfl ?_
        obtain ⟨q15, hE14, hE⟩ := xb1_inv hE
        refine xi_get (C := R_P) (T := T_P) (N := 6) (ci := 3) (k := 1) hC rfl iws_P (by decide) xt_15 (by decide) (xgR_inv hE14) d_P_addTask_77 ?_
        refine xi_iload hC d_P_addTask_80 0 rfl ?_
        refine xi_aload_n hC d_P_addTask_82 rfl 1 rfl ?_
        obtain ⟨v17, hE16, hE⟩ := xb1_inv hE
        refine xi_get (C := R_P) (T := T_P) (N := 6) (ci := 3) (k := 0) hC rfl iws_P (by decide) xt_116 (by decide) (xgI_inv hE16) d_P_addTask_83 ?_
        obtain ⟨h18, hE19, hE⟩ := xb1_inv hE
        refine xi_iast hC hE19 d_P_addTask_86 ?_
        refine xi_iload hC d_P_addTask_87 3 rfl ?_
        refine xi_iconst (v := (1 : Int32)) hC d_P_addTask_89 (by decide) ?_
        refine xi_iload hC d_P_addTask_90 0 rfl ?_
        refine xi_ishl hC d_P_addTask_92 ?_
        refine xi_iconst (v := (-1 : Int32)) hC d_P_addTask_93 (by decide) ?_
        refine xi_ixor hC d_P_addTask_94 ?_
        refine xi_iand hC d_P_addTask_95 ?_
        refine xi_istore (lv' := [(4, .int (x4 &&& (((1 : Int32) <<< (v7 &&& 31)) ^^^ (-1 : Int32)))), (6, .int v7), (0, .ref r0), (3, .ref r3), (5, .int x5)]) hC d_P_addTask_96 (by decide) rfl ?_
        refine xi_iinc (v := x5 + 1) (lv' := [(5, .int (x5 + 1)), (4, .int (x4 &&& (((1 : Int32) <<< (v7 &&& 31)) ^^^ (-1 : Int32)))), (6, .int v7), (0, .ref r0), (3, .ref r3)]) hC d_P_addTask_98 4 rfl rfl (by decide) rfl ?_
        refine xi_goto (tgt := 44) hC d_P_addTask_101 (by decide) ?_
        refine xi_locs (lv' := [(0, .ref r0), (3, .ref r3), (4, .int (x4 &&& (((1 : Int32) <<< (v7 &&& 31)) ^^^ (-1 : Int32)))), (5, .int (x5 + 1))]) [3, 4, 1, 0] rfl ?_
        exact ih _ _ _ _ _ _ _ hE
set_option maxRecDepth 100000 in
set_option maxHeartbeats 4000000 in
theorem s_P_addTask_0 {p : Program} {l : Launch} {e : Env} {s : State} {m : MethodId} {args : Array Value} {below : List Frame} {meth : Method} {c : Code} {D : va_G} {A : Nat → Prop} {ad0 : Nat → Nat} {n0 : Nat} (hC : XC p s m args c c_P_addTask 7 y_P_addTask.cls XTs XCL XNW XAL D A) (hr : meth.sig.returnType = none) (hlk : meth.locks = false) (hnm : meth.name = y_P_addTask.name)   (r0 : Nat) (x1 : Int32) (x2 : Int32) (r3 : Nat) (n : Nat) (h : XH) (h' : XH) (hE : D_P_addTask_0  r0 x1 x2 r3 h = some h') : XW p l e ({ frames := 2, cells := 0, slots := 0, locals := 43 } : Room) s m args below meth c 7 XCL D A ad0 n0 0 0 (MQ below (xQc D XCL n0 ad0 A none n h') args s 0 0 A) n h 0 [(0, .ref r0), (1, .int x1), (2, .int x2), (3, .ref r3)] [] := by
  unfold D_P_addTask_0 at hE
  refine xi_aload_n hC d_P_addTask_0 rfl 0 rfl ?_
  obtain ⟨v2, hE1, hE⟩ := xb1_inv hE
  refine xi_get (C := R_P) (T := T_P) (N := 6) (ci := 3) (k := 0) hC rfl iws_P (by decide) xt_116 (by decide) (xgI_inv hE1) d_P_addTask_1 ?_
  refine xi_bipush (v := (24 : Int32)) hC d_P_addTask_4 (by decide) ?_
  refine xi_icmp_lt (tgt := 10) hC d_P_addTask_6 (by decide) (fun hz3 => ?_) (fun hz3 => ?_)
  · rw [if_pos hz3] at hE
    refine xi_aload_n hC d_P_addTask_10 rfl 0 rfl ?_
    refine xi_dup hC d_P_addTask_11 rfl ?_
    obtain ⟨v5, hE4, hE⟩ := xb1_inv hE
    refine xi_get (C := R_P) (T := T_P) (N := 6) (ci := 3) (k := 0) hC rfl iws_P (by decide) xt_116 (by decide) (xgI_inv hE4) d_P_addTask_12 ?_
    refine xi_iconst (v := (1 : Int32)) hC d_P_addTask_15 (by decide) ?_
    refine xi_iadd hC d_P_addTask_16 ?_
    obtain ⟨h6, hE7, hE⟩ := xb1_inv hE
    refine xi_put (C := R_P) (T := T_P) (N := 6) (ci := 3) (k := 0) hC ty_P rfl iws_P tok_P nok_P (by decide) xt_116 (by decide) rfl (fun _ => rfl) (fun _ => rfl) hE7 d_P_addTask_17 ?_
    refine xi_aload_n hC d_P_addTask_20 rfl 0 rfl ?_
    obtain ⟨q9, hE8, hE⟩ := xb1_inv hE
    refine xi_get (C := R_P) (T := T_P) (N := 6) (ci := 3) (k := 2) hC rfl iws_P (by decide) xt_16 (by decide) (xgR_inv hE8) d_P_addTask_21 ?_
    refine xi_aload_n hC d_P_addTask_24 rfl 0 rfl ?_
    obtain ⟨v11, hE10, hE⟩ := xb1_inv hE
    refine xi_get (C := R_P) (T := T_P) (N := 6) (ci := 3) (k := 0) hC rfl iws_P (by decide) xt_116 (by decide) (xgI_inv hE10) d_P_addTask_25 ?_
    refine xi_iload_n hC d_P_addTask_28 rfl 1 rfl ?_
    obtain ⟨h12, hE13, hE⟩ := xb1_inv hE
    refine xi_iast hC hE13 d_P_addTask_29 ?_
    refine xi_iload_n hC d_P_addTask_30 rfl 2 rfl ?_
    refine xi_istore (lv' := [(4, .int x2), (0, .ref r0), (1, .int x1), (2, .int x2), (3, .ref r3)]) hC d_P_addTask_31 (by decide) rfl ?_
    refine xi_aload_n hC d_P_addTask_33 rfl 1 rfl ?_
    obtain ⟨q15, hE14, hE⟩ := xb1_inv hE
    refine xi_get (C := R_P) (T := T_P) (N := 6) (ci := 3) (k := 5) hC rfl iws_P (by decide) xt_19 (by decide) (xgR_inv hE14) d_P_addTask_34 ?_
    refine xi_aload_n hC d_P_addTask_37 rfl 1 rfl ?_
    obtain ⟨v17, hE16, hE⟩ := xb1_inv hE
    refine xi_get (C := R_P) (T := T_P) (N := 6) (ci := 3) (k := 0) hC rfl iws_P (by decide) xt_116 (by decide) (xgI_inv hE16) d_P_addTask_38 ?_
    obtain ⟨v18, hE19, hE⟩ := xb1_inv hE
    refine xi_iald hC hE19 d_P_addTask_41 ?_
    refine xi_istore (lv' := [(5, .int v18), (4, .int x2), (0, .ref r0), (1, .int x1), (2, .int x2), (3, .ref r3)]) hC d_P_addTask_42 (by decide) rfl ?_
    refine xi_locs (lv' := [(0, .ref r0), (3, .ref r3), (4, .int x2), (5, .int v18)]) [2, 5, 1, 0] rfl ?_
    exact s_P_addTask_44 hC hr hlk hnm 5000 _ _ _ _ _ _ _ hE
  · rw [if_neg hz3] at hE
    cases hE
    exact xi_vret hC hr hlk d_P_addTask_9
set_option maxRecDepth 100000 in
theorem x_P_addTask {l : Launch} {D : va_G} {r0 : Nat} {x1 : Int32} {x2 : Int32} {r3 : Nat} {n : Nat} {h : XH} {h' : XH} (hE : X_P_addTask r0 x1 x2 r3 h = some h') : XMet l y_P_addTask c_P_addTask 7 none XTs XCL XNW XAL D ({ frames := 2, cells := 0, slots := 0, locals := 43 } : Room) 0 0 [.ref r0, .int x1, .int x2, .ref r3] n h none n h' := by
  refine XMet.mk (by decide) xNW_good xTs_good (Nat.le_of_ble_eq_true rfl) ?_
  intro p e s m args below meth c A ad0 hC hr hlk hnm
  refine xi_locs (lv' := [(0, .ref r0), (1, .int x1), (2, .int x2), (3, .ref r3)]) [0, 1, 2, 3] rfl ?_
  exact s_P_addTask_0 hC hr hlk hnm _ _ _ _ n h _ hE

set_option maxRecDepth 100000 in
set_option maxHeartbeats 4000000 in
theorem s_P_addEventTasks_38 {p : Program} {l : Launch} {e : Env} {s : State} {m : MethodId} {args : Array Value} {below : List Frame} {meth : Method} {c : Code} {D : va_G} {A : Nat → Prop} {ad0 : Nat → Nat} {n0 : Nat} (hC : XC p s m args c c_P_addEventTasks 6 y_P_addEventTasks.cls XTs XCL XNW XAL D A) (hr : meth.sig.returnType = none) (hlk : meth.locks = false) (hnm : meth.name = y_P_addEventTasks.name) {k11 : Nat → Nat → Int32 → Int32 → XH → Option (XH)} (n : Nat) (h' : XH) (hk11 : ∀ (r0 : Nat) (r3 : Nat) (x4 : Int32) (x5 : Int32) (h1 : XH), k11 r0 r3 x4 x5 h1 = some h' → XW p l e ({ frames := 3, cells := 0, slots := 0, locals := 69 } : Room) s m args below meth c 6 XCL D A ad0 n0 0 0 (MQ below (xQc D XCL n0 ad0 A none n h') args s 0 0 A) n h1 11 [(0, .ref r0), (3, .ref r3), (4, .int x4), (5, .int x5)] []) (r0 : Nat) (r3 : Nat) (x4 : Int32) (x5 : Int32) (h : XH)  (hE : D_P_addEventTasks_38 k11 r0 r3 x4 x5 h = some h') : XW p l e ({ frames := 3, cells := 0, slots := 0, locals := 69 } : Room) s m args below meth c 6 XCL D A ad0 n0 0 0 (MQ below (xQc D XCL n0 ad0 A none n h') args s 0 0 A) n h 38 [(0, .ref r0), (3, .ref r3), (4, .int x4), (5, .int x5)] [] := by
  unfold D_P_addEventTasks_38 at hE
  refine xi_iinc (v := x5 + 1) (lv' := [(5, .int (x5 + 1)), (0, .ref r0), (3, .ref r3), (4, .int x4)]) hC d_P_addEventTasks_38 3 rfl rfl (by decide) rfl ?_
  refine xi_goto (tgt := 11) hC d_P_addEventTasks_41 (by decide) ?_
  refine xi_locs (lv' := [(0, .ref r0), (3, .ref r3), (4, .int x4), (5, .int (x5 + 1))]) [1, 2, 3, 0] rfl ?_
  exact hk11 _ _ _ _ _ hE
set_option maxRecDepth 100000 in
set_option maxHeartbeats 4000000 in
theorem s_P_addEventTasks_11 {p : Program} {l : Launch} {e : Env} {s : State} {m : MethodId} {args : Array Value} {below : List Frame} {meth : Method} {c : Code} {D : va_G} {A : Nat → Prop} {ad0 : Nat → Nat} {n0 : Nat} (hC : XC p s m args c c_P_addEventTasks 6 y_P_addEventTasks.cls XTs XCL XNW XAL D A) (hr : meth.sig.returnType = none) (hlk : meth.locks = false) (hnm : meth.name = y_P_addEventTasks.name)   : ∀ (f : Nat) (r0 : Nat) (r3 : Nat) (x4 : Int32) (x5 : Int32) (n : Nat) (h : XH) (h' : XH), D_P_addEventTasks_11  f r0 r3 x4 x5 h = some h' → XW p l e ({ frames := 3, cells := 0, slots := 0, locals := 69 } : Room) s m args below meth c 6 XCL D A ad0 n0 0 0 (MQ below (xQc D XCL n0 ad0 A none n h') args s 0 0 A) n h 11 [(0, .ref r0), (3, .ref r3), (4, .int x4), (5, .int x5)] [] := by
  intro f
  induction f with
  | zero =>
    intro r0 r3 x4 x5 n h h' hE
    exact absurd hE (by simp [D_P_addEventTasks_11])
  | succ fu ih =>
    intro r0 r3 x4 x5 n h h' hE
    simp only [D_P_addEventTasks_11] at hE
    refine xi_iload hC d_P_addEventTasks_11 3 rfl ?_
    refine xi_bipush (v := (24 : Int32)) hC d_P_addEventTasks_13 (by decide) ?_
    refine xi_icmp_gt (tgt := 44) hC d_P_addEventTasks_15 (by decide) (fun hz1 => ?_) (fun hz1 => ?_)
    · rw [if_pos hz1] at hE
      cases hE
      exact xi_vret hC hr hlk d_P_addEventTasks_44
    · rw [if_neg hz1] at hE
      refine xi_iload hC d_P_addEventTasks_18 2 rfl ?_
      refine xi_iload hC d_P_addEventTasks_20 3 rfl ?_
      obtain ⟨v2, hE3, hE⟩ := xb1_inv hE
      refine xi_callSN (as := [.int x4, .int x5]) (st := []) hC (x_T_isIn hE3) xn_2 xt_59 xt_47 xt_58 ⟨by decide, by decide, (by decide +kernel : (parseMethodDescriptor y_T_isIn.desc).map (fun d => d.parameters.length) = some 2)⟩ rfl rfl ⟨by decide, by decide⟩ ⟨by decide, by decide⟩ (Nat.le_of_ble_eq_true rfl) rfl d_P_addEventTasks_22 ?_
      refine xi_stk (st' := [.int v2]) rfl ?_
      refine xi_if_eq (tgt := 38) hC d_P_addEventTasks_25 (by decide) (fun hz4 => ?_) (fun hz4 => ?_)
      · rw [if_pos hz4] at hE
        refine xi_locs (lv' := [(0, .ref r0), (3, .ref r3), (4, .int x4), (5, .int x5)]) [0, 1, 2, 3] rfl ?_
        exact s_P_addEventTasks_38 hC hr hlk hnm _ _ (fun y0 y1 y2 y3 h1 z => ih y0 y1 y2 y3 _ h1 _ z) _ _ _ _ _ hE
      · rw [if_neg hz4] at hE
        refine xi_aload_n hC d_P_addEventTasks_28 rfl 0 rfl ?_
        refine xi_iconst (v := (0 : Int32)) hC d_P_addEventTasks_29 (by decide) ?_
        refine xi_iconst (v := (1 : Int32)) hC d_P_addEventTasks_30 (by decide) ?_
        refine xi_iload hC d_P_addEventTasks_31 3 rfl ?_
        refine xi_ishl hC d_P_addEventTasks_33 ?_
        refine xi_aload_n hC d_P_addEventTasks_34 rfl 1 rfl ?_
        obtain ⟨hI7, hE⟩ := xchk_inv hE
        obtain ⟨h5, hE6, hE⟩ := xb1_inv hE
        refine xi_callV (as := [.int (0 : Int32), .int ((1 : Int32) <<< (x5 &&& 31)), .ref r3]) (st := []) (C := R_P) (T := T_P) (N := 6) hC (x_P_addTask hE6) rfl (by decide) hI7 xt_122 xt_123 xt_124 xt_38 xt_121 ⟨by decide, by decide, (by decide +kernel : (parseMethodDescriptor y_P_addTask.desc).map (fun d => d.parameters.length) = some 3)⟩ rfl rfl ⟨by decide, by decide⟩ ⟨by decide, by decide⟩ (Nat.le_of_ble_eq_true rfl) rfl d_P_addEventTasks_35 ?_
        refine xi_stk (st' := []) rfl ?_
        refine xi_locs (lv' := [(0, .ref r0), (3, .ref r3), (4, .int x4), (5, .int x5)]) [0, 1, 2, 3] rfl ?_
        exact s_P_addEventTasks_38 hC hr hlk hnm _ _ (fun y0 y1 y2 y3 h1 z => ih y0 y1 y2 y3 _ h1 _ z) _ _ _ _ _ hE
set_option maxRecDepth 100000 in
set_option maxHeartbeats 4000000 in
theorem s_P_addEventTasks_0 {p : Program} {l : Launch} {e : Env} {s : State} {m : MethodId} {args : Array Value} {below : List Frame} {meth : Method} {c : Code} {D : va_G} {A : Nat → Prop} {ad0 : Nat → Nat} {n0 : Nat} (hC : XC p s m args c c_P_addEventTasks 6 y_P_addEventTasks.cls XTs XCL XNW XAL D A) (hr : meth.sig.returnType = none) (hlk : meth.locks = false) (hnm : meth.name = y_P_addEventTasks.name)   (r0 : Nat) (x1 : Int32) (r2 : Nat) (r3 : Nat) (n : Nat) (h : XH) (h' : XH) (hE : D_P_addEventTasks_0  r0 x1 r2 r3 h = some h') : XW p l e ({ frames := 3, cells := 0, slots := 0, locals := 69 } : Room) s m args below meth c 6 XCL D A ad0 n0 0 0 (MQ below (xQc D XCL n0 ad0 A none n h') args s 0 0 A) n h 0 [(0, .ref r0), (1, .int x1), (2, .ref r2), (3, .ref r3)] [] := by
  unfold D_P_addEventTasks_0 at hE
  refine xi_aload_n hC d_P_addEventTasks_0 rfl 2 rfl ?_
  refine xi_iload_n hC d_P_addEventTasks_1 rfl 1 rfl ?_
  refine xi_iconst (v := (0 : Int32)) hC d_P_addEventTasks_2 (by decide) ?_
  obtain ⟨hI3, hE⟩ := xchk_inv hE
  obtain ⟨v1, hE2, hE⟩ := xb1_inv hE
  refine xi_callV (as := [.int x1, .int (0 : Int32)]) (st := []) (C := R_U) (T := T_U) (N := 6) hC (x_U_group hE2) rfl (by decide) hI3 xt_126 xt_127 xt_128 xt_23 xt_125 ⟨by decide, by decide, (by decide +kernel : (parseMethodDescriptor y_U_group.desc).map (fun d => d.parameters.length) = some 2)⟩ rfl rfl ⟨by decide, by decide⟩ ⟨by decide, by decide⟩ (Nat.le_of_ble_eq_true rfl) rfl d_P_addEventTasks_3 ?_
  refine xi_stk (st' := [.int v1]) rfl ?_
  refine xi_istore (lv' := [(4, .int v1), (0, .ref r0), (1, .int x1), (2, .ref r2), (3, .ref r3)]) hC d_P_addEventTasks_6 (by decide) rfl ?_
  refine xi_iconst (v := (1 : Int32)) hC d_P_addEventTasks_8 (by decide) ?_
  refine xi_istore (lv' := [(5, .int (1 : Int32)), (4, .int v1), (0, .ref r0), (1, .int x1), (2, .ref r2), (3, .ref r3)]) hC d_P_addEventTasks_9 (by decide) rfl ?_
  refine xi_locs (lv' := [(0, .ref r0), (3, .ref r3), (4, .int v1), (5, .int (1 : Int32))]) [2, 5, 1, 0] rfl ?_
  exact s_P_addEventTasks_11 hC hr hlk hnm 5000 _ _ _ _ _ _ _ hE
set_option maxRecDepth 100000 in
theorem x_P_addEventTasks {l : Launch} {D : va_G} {r0 : Nat} {x1 : Int32} {r2 : Nat} {r3 : Nat} {n : Nat} {h : XH} {h' : XH} (hE : X_P_addEventTasks r0 x1 r2 r3 h = some h') : XMet l y_P_addEventTasks c_P_addEventTasks 6 none XTs XCL XNW XAL D ({ frames := 3, cells := 0, slots := 0, locals := 69 } : Room) 0 0 [.ref r0, .int x1, .ref r2, .ref r3] n h none n h' := by
  refine XMet.mk (by decide) xNW_good xTs_good (Nat.le_of_ble_eq_true rfl) ?_
  intro p e s m args below meth c A ad0 hC hr hlk hnm
  refine xi_locs (lv' := [(0, .ref r0), (1, .int x1), (2, .ref r2), (3, .ref r3)]) [0, 1, 2, 3] rfl ?_
  exact s_P_addEventTasks_0 hC hr hlk hnm _ _ _ _ n h _ hE

set_option maxRecDepth 100000 in
set_option maxHeartbeats 4000000 in
theorem s_U_periodAbove_59 {p : Program} {l : Launch} {e : Env} {s : State} {m : MethodId} {args : Array Value} {below : List Frame} {meth : Method} {c : Code} {D : va_G} {A : Nat → Prop} {ad0 : Nat → Nat} {n0 : Nat} (hC : XC p s m args c c_U_periodAbove 5 y_U_periodAbove.cls XTs XCL XNW XAL D A) (hr : meth.sig.returnType = some .int) (hlk : meth.locks = false) (hnm : meth.name = y_U_periodAbove.name) {k5 : Nat → Int32 → Int32 → Int32 → Int32 → XH → Option (Int32)} (n : Nat) (h : XH) (rr : Int32)  (hk5 : ∀ (r0 : Nat) (x1 : Int32) (x2 : Int32) (x3 : Int32) (x4 : Int32), k5 r0 x1 x2 x3 x4 h = some rr → XW p l e ({ frames := 0, cells := 0, slots := 0, locals := 0 } : Room) s m args below meth c 5 XCL D A ad0 n0 0 0 (MQ below (xQc D XCL n0 ad0 A (some (.int rr)) n h) args s 0 0 A) n h 5 [(0, .ref r0), (1, .int x1), (2, .int x2), (3, .int x3), (4, .int x4)] []) (r0 : Nat) (x1 : Int32) (x2 : Int32) (x3 : Int32) (x4 : Int32)  (hE : D_U_periodAbove_59 k5 r0 x1 x2 x3 x4 h = some rr) : XW p l e ({ frames := 0, cells := 0, slots := 0, locals := 0 } : Room) s m args below meth c 5 XCL D A ad0 n0 0 0 (MQ below (xQc D XCL n0 ad0 A (some (.int rr)) n h) args s 0 0 A) n h 59 [(0, .ref r0), (1, .int x1), (2, .int x2), (3, .int x3), (4, .int x4)] [] := by
  unfold D_U_periodAbove_59 at hE
  refine xi_iinc (v := x4 + 1) (lv' := [(4, .int (x4 + 1)), (0, .ref r0), (1, .int x1), (2, .int x2), (3, .int x3)]) hC d_U_periodAbove_59 4 rfl rfl (by decide) rfl ?_
  refine xi_goto (tgt := 5) hC d_U_periodAbove_62 (by decide) ?_
  refine xi_locs (lv' := [(0, .ref r0), (1, .int x1), (2, .int x2), (3, .int x3), (4, .int (x4 + 1))]) [1, 2, 3, 4, 0] rfl ?_
  exact hk5 _ _ _ _ _ hE
set_option maxRecDepth 100000 in
set_option maxHeartbeats 4000000 in
theorem s_U_periodAbove_51 {p : Program} {l : Launch} {e : Env} {s : State} {m : MethodId} {args : Array Value} {below : List Frame} {meth : Method} {c : Code} {D : va_G} {A : Nat → Prop} {ad0 : Nat → Nat} {n0 : Nat} (hC : XC p s m args c c_U_periodAbove 5 y_U_periodAbove.cls XTs XCL XNW XAL D A) (hr : meth.sig.returnType = some .int) (hlk : meth.locks = false) (hnm : meth.name = y_U_periodAbove.name) {k5 : Nat → Int32 → Int32 → Int32 → Int32 → XH → Option (Int32)} (n : Nat) (h : XH) (rr : Int32)  (hk5 : ∀ (r0 : Nat) (x1 : Int32) (x2 : Int32) (x3 : Int32) (x4 : Int32), k5 r0 x1 x2 x3 x4 h = some rr → XW p l e ({ frames := 0, cells := 0, slots := 0, locals := 0 } : Room) s m args below meth c 5 XCL D A ad0 n0 0 0 (MQ below (xQc D XCL n0 ad0 A (some (.int rr)) n h) args s 0 0 A) n h 5 [(0, .ref r0), (1, .int x1), (2, .int x2), (3, .int x3), (4, .int x4)] []) (r0 : Nat) (x1 : Int32) (x2 : Int32) (x4 : Int32)  (hE : D_U_periodAbove_51 k5 r0 x1 x2 x4 h = some rr) : XW p l e ({ frames := 0, cells := 0, slots := 0, locals := 0 } : Room) s m args below meth c 5 XCL D A ad0 n0 0 0 (MQ below (xQc D XCL n0 ad0 A (some (.int rr)) n h) args s 0 0 A) n h 51 [(0, .ref r0), (1, .int x1), (2, .int x2), (4, .int x4)] [] := by
  unfold D_U_periodAbove_51 at hE
  refine xi_aload_n hC d_U_periodAbove_51 rfl 0 rfl ?_
  obtain ⟨q2, hE1, hE⟩ := xb1_inv hE
  refine xi_get (C := R_U) (T := T_U) (N := 6) (ci := 1) (k := 1) hC rfl iws_U (by decide) xt_4 (by decide) (xgR_inv hE1) d_U_periodAbove_52 ?_
  refine xi_iload hC d_U_periodAbove_55 3 rfl ?_
  obtain ⟨v3, hE4, hE⟩ := xb1_inv hE
  refine xi_iald hC hE4 d_U_periodAbove_57 ?_
  refine xi_istore_n (lv' := [(3, .int v3), (0, .ref r0), (1, .int x1), (2, .int x2), (4, .int x4)]) hC d_U_periodAbove_58 rfl (by decide) rfl ?_
  refine xi_locs (lv' := [(0, .ref r0), (1, .int x1), (2, .int x2), (3, .int v3), (4, .int x4)]) [1, 2, 3, 0, 4] rfl ?_
  exact s_U_periodAbove_59 hC hr hlk hnm _ _ _ hk5 _ _ _ _ _ hE
set_option maxRecDepth 100000 in
set_option maxHeartbeats 4000000 in
theorem s_U_periodAbove_5 {p : Program} {l : Launch} {e : Env} {s : State} {m : MethodId} {args : Array Value} {below : List Frame} {meth : Method} {c : Code} {D : va_G} {A : Nat → Prop} {ad0 : Nat → Nat} {n0 : Nat} (hC : XC p s m args c c_U_periodAbove 5 y_U_periodAbove.cls XTs XCL XNW XAL D A) (hr : meth.sig.returnType = some .int) (hlk : meth.locks = false) (hnm : meth.name = y_U_periodAbove.name)   : ∀ (f : Nat) (r0 : Nat) (x1 : Int32) (x2 : Int32) (x3 : Int32) (x4 : Int32) (n : Nat) (h : XH) (rr : Int32) , D_U_periodAbove_5  f r0 x1 x2 x3 x4 h = some rr → XW p l e ({ frames := 0, cells := 0, slots := 0, locals := 0 } : Room) s m args below meth c 5 XCL D A ad0 n0 0 0 (MQ below (xQc D XCL n0 ad0 A (some (.int rr)) n h) args s 0 0 A) n h 5 [(0, .ref r0), (1, .int x1), (2, .int x2), (3, .int x3), (4, .int x4)] [] := by
  intro f
  induction f with
  | zero =>
    intro r0 x1 x2 x3 x4 n h rr hE
    exact absurd hE (by simp [D_U_periodAbove_5])
  | succ fu ih =>
    intro r0 x1 x2 x3 x4 n h rr hE
    simp only [D_U_periodAbove_5] at hE
    refine xi_iload hC d_U_periodAbove_5 4 rfl ?_
    refine xi_aload_n hC d_U_periodAbove_7 rfl 0 rfl ?_
    obtain ⟨v2, hE1, hE⟩ := xb1_inv hE
    refine xi_get (C := R_U) (T := T_U) (N := 6) (ci := 1) (k := 0) hC rfl iws_U (by decide) xt_43 (by decide) (xgI_inv hE1) d_U_periodAbove_8 ?_
    refine xi_icmp_gt (tgt := 65) hC d_U_periodAbove_11 (by decide) (fun hz3 => ?_) (fun hz3 => ?_)
    · rw [if_pos hz3] at hE
      refine xi_iload_n hC d_U_periodAbove_65 rfl 3 rfl ?_
      cases hE
      exact xi_iret hC hr hlk d_U_periodAbove_66
    · rw [if_neg hz3] at hE
      refine xi_aload_n hC d_U_periodAbove_14 rfl 0 rfl ?_
      obtain ⟨q5, hE4, hE⟩ := xb1_inv hE
      refine xi_get (C := R_U) (T := T_U) (N := 6) (ci := 1) (k := 2) hC rfl iws_U (by decide) xt_5 (by decide) (xgR_inv hE4) d_U_periodAbove_15 ?_
      refine xi_iload hC d_U_periodAbove_18 4 rfl ?_
      obtain ⟨v6, hE7, hE⟩ := xb1_inv hE
      refine xi_iald hC hE7 d_U_periodAbove_20 ?_
      refine xi_iload_n hC d_U_periodAbove_21 rfl 1 rfl ?_
      refine xi_icmp_ne (tgt := 59) hC d_U_periodAbove_22 (by decide) (fun hz8 => ?_) (fun hz8 => ?_)
      · rw [if_neg hz8] at hE
        refine xi_locs (lv' := [(0, .ref r0), (1, .int x1), (2, .int x2), (3, .int x3), (4, .int x4)]) [0, 1, 2, 3, 4] rfl ?_
        exact s_U_periodAbove_59 hC hr hlk hnm _ _ _ (fun y0 y1 y2 y3 y4 z => ih y0 y1 y2 y3 y4 _ _ _ z) _ _ _ _ _ hE
      · rw [if_pos hz8] at hE
        refine xi_aload_n hC d_U_periodAbove_25 rfl 0 rfl ?_
        obtain ⟨q10, hE9, hE⟩ := xb1_inv hE
        refine xi_get (C := R_U) (T := T_U) (N := 6) (ci := 1) (k := 1) hC rfl iws_U (by decide) xt_4 (by decide) (xgR_inv hE9) d_U_periodAbove_26 ?_
        refine xi_iload hC d_U_periodAbove_29 4 rfl ?_
        obtain ⟨v11, hE12, hE⟩ := xb1_inv hE
        refine xi_iald hC hE12 d_U_periodAbove_31 ?_
        refine xi_iload_n hC d_U_periodAbove_32 rfl 2 rfl ?_
        refine xi_icmp_le (tgt := 59) hC d_U_periodAbove_33 (by decide) (fun hz13 => ?_) (fun hz13 => ?_)
        · rw [if_pos hz13] at hE
          refine xi_locs (lv' := [(0, .ref r0), (1, .int x1), (2, .int x2), (3, .int x3), (4, .int x4)]) [0, 1, 2, 3, 4] rfl ?_
          exact s_U_periodAbove_59 hC hr hlk hnm _ _ _ (fun y0 y1 y2 y3 y4 z => ih y0 y1 y2 y3 y4 _ _ _ z) _ _ _ _ _ hE
        · rw [if_neg hz13] at hE
          refine xi_iload_n hC d_U_periodAbove_36 rfl 3 rfl ?_
          refine xi_if_eq (tgt := 51) hC d_U_periodAbove_37 (by decide) (fun hz14 => ?_) (fun hz14 => ?_)
          · rw [if_pos hz14] at hE
            refine xi_locs (lv' := [(0, .ref r0), (1, .int x1), (2, .int x2), (4, .int x4)]) [0, 1, 2, 4] rfl ?_
            exact s_U_periodAbove_51 hC hr hlk hnm _ _ _ (fun y0 y1 y2 y3 y4 z => ih y0 y1 y2 y3 y4 _ _ _ z) _ _ _ _ hE
          · rw [if_neg hz14] at hE
            refine xi_aload_n hC d_U_periodAbove_40 rfl 0 rfl ?_
            obtain ⟨q16, hE15, hE⟩ := xb1_inv hE
            refine xi_get (C := R_U) (T := T_U) (N := 6) (ci := 1) (k := 1) hC rfl iws_U (by decide) xt_4 (by decide) (xgR_inv hE15) d_U_periodAbove_41 ?_
            refine xi_iload hC d_U_periodAbove_44 4 rfl ?_
            obtain ⟨v17, hE18, hE⟩ := xb1_inv hE
            refine xi_iald hC hE18 d_U_periodAbove_46 ?_
            refine xi_iload_n hC d_U_periodAbove_47 rfl 3 rfl ?_
            refine xi_icmp_ge (tgt := 59) hC d_U_periodAbove_48 (by decide) (fun hz19 => ?_) (fun hz19 => ?_)
            · rw [if_pos hz19] at hE
              refine xi_locs (lv' := [(0, .ref r0), (1, .int x1), (2, .int x2), (3, .int x3), (4, .int x4)]) [0, 1, 2, 3, 4] rfl ?_
              exact s_U_periodAbove_59 hC hr hlk hnm _ _ _ (fun y0 y1 y2 y3 y4 z => ih y0 y1 y2 y3 y4 _ _ _ z) _ _ _ _ _ hE
            · rw [if_neg hz19] at hE
              refine xi_locs (lv' := [(0, .ref r0), (1, .int x1), (2, .int x2), (4, .int x4)]) [0, 1, 2, 4] rfl ?_
              exact s_U_periodAbove_51 hC hr hlk hnm _ _ _ (fun y0 y1 y2 y3 y4 z => ih y0 y1 y2 y3 y4 _ _ _ z) _ _ _ _ hE
set_option maxRecDepth 100000 in
set_option maxHeartbeats 4000000 in
theorem s_U_periodAbove_0 {p : Program} {l : Launch} {e : Env} {s : State} {m : MethodId} {args : Array Value} {below : List Frame} {meth : Method} {c : Code} {D : va_G} {A : Nat → Prop} {ad0 : Nat → Nat} {n0 : Nat} (hC : XC p s m args c c_U_periodAbove 5 y_U_periodAbove.cls XTs XCL XNW XAL D A) (hr : meth.sig.returnType = some .int) (hlk : meth.locks = false) (hnm : meth.name = y_U_periodAbove.name)   (r0 : Nat) (x1 : Int32) (x2 : Int32) (n : Nat) (h : XH) (rr : Int32)  (hE : D_U_periodAbove_0  r0 x1 x2 h = some rr) : XW p l e ({ frames := 0, cells := 0, slots := 0, locals := 0 } : Room) s m args below meth c 5 XCL D A ad0 n0 0 0 (MQ below (xQc D XCL n0 ad0 A (some (.int rr)) n h) args s 0 0 A) n h 0 [(0, .ref r0), (1, .int x1), (2, .int x2)] [] := by
  unfold D_U_periodAbove_0 at hE
  refine xi_iconst (v := (0 : Int32)) hC d_U_periodAbove_0 (by decide) ?_
  refine xi_istore_n (lv' := [(3, .int (0 : Int32)), (0, .ref r0), (1, .int x1), (2, .int x2)]) hC d_U_periodAbove_1 rfl (by decide) rfl ?_
  refine xi_iconst (v := (1 : Int32)) hC d_U_periodAbove_2 (by decide) ?_
  refine xi_istore (lv' := [(4, .int (1 : Int32)), (3, .int (0 : Int32)), (0, .ref r0), (1, .int x1), (2, .int x2)]) hC d_U_periodAbove_3 (by decide) rfl ?_
  refine xi_locs (lv' := [(0, .ref r0), (1, .int x1), (2, .int x2), (3, .int (0 : Int32)), (4, .int (1 : Int32))]) [2, 3, 4, 1, 0] rfl ?_
  exact s_U_periodAbove_5 hC hr hlk hnm 5000 _ _ _ _ _ _ _ _ hE
set_option maxRecDepth 100000 in
theorem x_U_periodAbove {l : Launch} {D : va_G} {r0 : Nat} {x1 : Int32} {x2 : Int32} {n : Nat} {h : XH} {rr : Int32}  (hE : X_U_periodAbove r0 x1 x2 h = some rr) : XMet l y_U_periodAbove c_U_periodAbove 5 (some .int) XTs XCL XNW XAL D ({ frames := 0, cells := 0, slots := 0, locals := 0 } : Room) 0 0 [.ref r0, .int x1, .int x2] n h (some (.int rr)) n h := by
  refine XMet.mk (by decide) xNW_good xTs_good (Nat.le_of_ble_eq_true rfl) ?_
  intro p e s m args below meth c A ad0 hC hr hlk hnm
  refine xi_locs (lv' := [(0, .ref r0), (1, .int x1), (2, .int x2)]) [0, 1, 2] rfl ?_
  exact s_U_periodAbove_0 hC hr hlk hnm _ _ _ n h _ hE


set_option maxRecDepth 100000 in
set_option maxHeartbeats 4000000 in
theorem s_M_order_69 {p : Program} {l : Launch} {e : Env} {s : State} {m : MethodId} {args : Array Value} {below : List Frame} {meth : Method} {c : Code} {D : va_G} {A : Nat → Prop} {ad0 : Nat → Nat} {n0 : Nat} (hC : XC p s m args c c_M_order 4 y_M_order.cls XTs XCL XNW XAL D A) (hr : meth.sig.returnType = some .int) (hlk : meth.locks = false) (hnm : meth.name = y_M_order.name)   (s0 : Int32) (n : Nat) (h : XH) (rr : Int32) (h' : XH) (hE : D_M_order_69  s0 h = some (rr, h')) : XW p l e ({ frames := 2, cells := 0, slots := 0, locals := 46 } : Room) s m args below meth c 4 XCL D A ad0 n0 0 0 (MQ below (xQc D XCL n0 ad0 A (some (.int rr)) n h') args s 0 0 A) n h 69 [] [.int s0] := by
  unfold D_M_order_69 at hE
  cases hE
  exact xi_iret hC hr hlk d_M_order_69
set_option maxRecDepth 100000 in
set_option maxHeartbeats 4000000 in
theorem s_M_order_68 {p : Program} {l : Launch} {e : Env} {s : State} {m : MethodId} {args : Array Value} {below : List Frame} {meth : Method} {c : Code} {D : va_G} {A : Nat → Prop} {ad0 : Nat → Nat} {n0 : Nat} (hC : XC p s m args c c_M_order 4 y_M_order.cls XTs XCL XNW XAL D A) (hr : meth.sig.returnType = some .int) (hlk : meth.locks = false) (hnm : meth.name = y_M_order.name)    (n : Nat) (h : XH) (rr : Int32) (h' : XH) (hE : D_M_order_68   h = some (rr, h')) : XW p l e ({ frames := 2, cells := 0, slots := 0, locals := 46 } : Room) s m args below meth c 4 XCL D A ad0 n0 0 0 (MQ below (xQc D XCL n0 ad0 A (some (.int rr)) n h') args s 0 0 A) n h 68 [] [] := by
  unfold D_M_order_68 at hE
  refine xi_iconst (v := (0 : Int32)) hC d_M_order_68 (by decide) ?_
  refine xi_locs (lv' := []) [] rfl ?_
  exact s_M_order_69 hC hr hlk hnm _ _ _ _ _ hE
set_option maxRecDepth 100000 in
set_option maxHeartbeats 4000000 in
theorem s_M_order_0 {p : Program} {l : Launch} {e : Env} {s : State} {m : MethodId} {args : Array Value} {below : List Frame} {meth : Method} {c : Code} {D : va_G} {A : Nat → Prop} {ad0 : Nat → Nat} {n0 : Nat} (hC : XC p s m args c c_M_order 4 y_M_order.cls XTs XCL XNW XAL D A) (hr : meth.sig.returnType = some .int) (hlk : meth.locks = false) (hnm : meth.name = y_M_order.name)   (r0 : Nat) (x1 : Int32) (x2 : Int32) (n : Nat) (h : XH) (rr : Int32) (h' : XH) (hE : D_M_order_0  r0 x1 x2 h = some (rr, h')) : XW p l e ({ frames := 2, cells := 0, slots := 0, locals := 46 } : Room) s m args below meth c 4 XCL D A ad0 n0 0 0 (MQ below (xQc D XCL n0 ad0 A (some (.int rr)) n h') args s 0 0 A) n h 0 [(0, .ref r0), (1, .int x1), (2, .int x2)] [] := by
  unfold D_M_order_0 at hE
  refine xi_aload_n hC d_M_order_0 rfl 0 rfl ?_
  refine xi_iconst (v := (0 : Int32)) hC d_M_order_1 (by decide) ?_
  obtain ⟨h1, hE2, hE⟩ := xb1_inv hE
  refine xi_put (C := R_M) (T := T_M) (N := 19) (ci := 4) (k := 0) hC ty_M rfl iws_M tok_M nok_M (by decide) xt_219 (by decide) rfl (fun _ => rfl) (fun _ => rfl) hE2 d_M_order_2 ?_
  refine xi_aload_n hC d_M_order_5 rfl 0 rfl ?_
  obtain ⟨v4, hE3, hE⟩ := xb1_inv hE
  refine xi_get (C := R_M) (T := T_M) (N := 19) (ci := 4) (k := 11) hC rfl iws_M (by decide) xt_223 (by decide) (xgI_inv hE3) d_M_order_6 ?_
  refine xi_if_ne (tgt := 15) hC d_M_order_9 (by decide) (fun hz5 => ?_) (fun hz5 => ?_)
  · rw [if_neg hz5] at hE
    refine xi_aload_n hC d_M_order_15 rfl 0 rfl ?_
    refine xi_iload_n hC d_M_order_16 rfl 1 rfl ?_
    obtain ⟨hI8, hE⟩ := xchk_inv hE
    obtain ⟨v6, hE7, hE⟩ := xb1_inv hE
    refine xi_callV (as := [.int x1]) (st := []) (C := R_M) (T := T_M) (N := 19) hC (x_M_isTask hE7) rfl (by decide) hI8 xt_264 xt_265 xt_266 xt_218 xt_263 ⟨by decide, by decide, (by decide +kernel : (parseMethodDescriptor y_M_isTask.desc).map (fun d => d.parameters.length) = some 1)⟩ rfl rfl ⟨by decide, by decide⟩ ⟨by decide, by decide⟩ (Nat.le_of_ble_eq_true rfl) rfl d_M_order_17 ?_
    refine xi_stk (st' := [.int v6]) rfl ?_
    refine xi_if_ne (tgt := 25) hC d_M_order_20 (by decide) (fun hz9 => ?_) (fun hz9 => ?_)
    · rw [if_neg hz9] at hE
      refine xi_aload_n hC d_M_order_25 rfl 0 rfl ?_
      obtain ⟨q11, hE10, hE⟩ := xb1_inv hE
      refine xi_get (C := R_M) (T := T_M) (N := 19) (ci := 4) (k := 16) hC rfl iws_M (by decide) xt_211 (by decide) (xgR_inv hE10) d_M_order_26 ?_
      refine xi_iload_n hC d_M_order_29 rfl 1 rfl ?_
      obtain ⟨v12, hE13, hE⟩ := xb1_inv hE
      refine xi_iald hC hE13 d_M_order_30 ?_
      refine xi_aload_n hC d_M_order_31 rfl 0 rfl ?_
      refine xi_iconst (v := (0 : Int32)) hC d_M_order_32 (by decide) ?_
      refine xi_iload_n hC d_M_order_33 rfl 1 rfl ?_
      refine xi_iconst (v := (1 : Int32)) hC d_M_order_34 (by decide) ?_
      refine xi_isub hC d_M_order_35 ?_
      obtain ⟨hI16, hE⟩ := xchk_inv hE
      obtain ⟨v14, hE15, hE⟩ := xb1_inv hE
      refine xi_callV (as := [.int (0 : Int32), .int (x1 - (1 : Int32))]) (st := [.int v12]) (C := R_M) (T := T_M) (N := 19) hC (x_M_from hE15) rfl (by decide) hI16 xt_268 xt_269 xt_270 xt_218 xt_267 ⟨by decide, by decide, (by decide +kernel : (parseMethodDescriptor y_M_from.desc).map (fun d => d.parameters.length) = some 2)⟩ rfl rfl ⟨by decide, by decide⟩ ⟨by decide, by decide⟩ (Nat.le_of_ble_eq_true rfl) rfl d_M_order_36 ?_
      refine xi_stk (st' := [.int v14, .int v12]) rfl ?_
      refine xi_isub hC d_M_order_39 ?_
      refine xi_istore_n (lv' := [(3, .int (v12 - v14)), (0, .ref r0), (1, .int x1), (2, .int x2)]) hC d_M_order_40 rfl (by decide) rfl ?_
      refine xi_iload_n hC d_M_order_41 rfl 3 rfl ?_
      refine xi_if_lt (tgt := 68) hC d_M_order_42 (by decide) (fun hz17 => ?_) (fun hz17 => ?_)
      · rw [if_pos hz17] at hE
        refine xi_locs (lv' := []) [] rfl ?_
        exact s_M_order_68 hC hr hlk hnm _ _ _ _ hE
      · rw [if_neg hz17] at hE
        refine xi_iload_n hC d_M_order_45 rfl 3 rfl ?_
        refine xi_iload_n hC d_M_order_46 rfl 0 rfl ?_
        refine xi_icmp_ge (tgt := 68) hC d_M_order_47 (by decide) (fun hz18 => ?_) (fun hz18 => ?_)
        · rw [if_pos hz18] at hE
          refine xi_locs (lv' := []) [] rfl ?_
          exact s_M_order_68 hC hr hlk hnm _ _ _ _ hE
        · rw [if_neg hz18] at hE
          refine xi_aload_n hC d_M_order_50 rfl 1 rfl ?_
          obtain ⟨q20, hE19, hE⟩ := xb1_inv hE
          refine xi_get (C := R_M) (T := T_M) (N := 19) (ci := 4) (k := 17) hC rfl iws_M (by decide) xt_212 (by decide) (xgR_inv hE19) d_M_order_51 ?_
          refine xi_aload_n hC d_M_order_54 rfl 1 rfl ?_
          refine xi_iconst (v := (0 : Int32)) hC d_M_order_55 (by decide) ?_
          refine xi_iload_n hC d_M_order_56 rfl 2 rfl ?_
          refine xi_iconst (v := (1 : Int32)) hC d_M_order_57 (by decide) ?_
          refine xi_isub hC d_M_order_58 ?_
          obtain ⟨hI23, hE⟩ := xchk_inv hE
          obtain ⟨v21, hE22, hE⟩ := xb1_inv hE
          refine xi_callV (as := [.int (0 : Int32), .int (x1 - (1 : Int32))]) (st := [.ref q20]) (C := R_M) (T := T_M) (N := 19) hC (x_M_from hE22) rfl (by decide) hI23 xt_268 xt_269 xt_270 xt_218 xt_267 ⟨by decide, by decide, (by decide +kernel : (parseMethodDescriptor y_M_from.desc).map (fun d => d.parameters.length) = some 2)⟩ rfl rfl ⟨by decide, by decide⟩ ⟨by decide, by decide⟩ (Nat.le_of_ble_eq_true rfl) rfl d_M_order_59 ?_
          refine xi_stk (st' := [.int v21, .ref q20]) rfl ?_
          refine xi_iload_n hC d_M_order_62 rfl 3 rfl ?_
          refine xi_iadd hC d_M_order_63 ?_
          obtain ⟨v24, hE25, hE⟩ := xb1_inv hE
          refine xi_iald hC hE25 d_M_order_64 ?_
          refine xi_goto (tgt := 69) hC d_M_order_65 (by decide) ?_
          refine xi_locs (lv' := []) [] rfl ?_
          exact s_M_order_69 hC hr hlk hnm _ _ _ _ _ hE
    · rw [if_pos hz9] at hE
      refine xi_iconst (v := (-1 : Int32)) hC d_M_order_23 (by decide) ?_
      cases hE
      exact xi_iret hC hr hlk d_M_order_24
  · rw [if_pos hz5] at hE
    refine xi_bipush (v := (-3 : Int32)) hC d_M_order_12 (by decide) ?_
    cases hE
    exact xi_iret hC hr hlk d_M_order_14
set_option maxRecDepth 100000 in
theorem x_M_order {l : Launch} {D : va_G} {r0 : Nat} {x1 : Int32} {x2 : Int32} {n : Nat} {h : XH} {rr : Int32} {h' : XH} (hE : X_M_order r0 x1 x2 h = some (rr, h')) : XMet l y_M_order c_M_order 4 (some .int) XTs XCL XNW XAL D ({ frames := 2, cells := 0, slots := 0, locals := 46 } : Room) 0 0 [.ref r0, .int x1, .int x2] n h (some (.int rr)) n h' := by
  refine XMet.mk (by decide) xNW_good xTs_good (Nat.le_of_ble_eq_true rfl) ?_
  intro p e s m args below meth c A ad0 hC hr hlk hnm
  refine xi_locs (lv' := [(0, .ref r0), (1, .int x1), (2, .int x2)]) [0, 1, 2] rfl ?_
  exact s_M_order_0 hC hr hlk hnm _ _ _ n h _ _ hE

set_option maxRecDepth 100000 in
set_option maxHeartbeats 4000000 in
theorem s_M_rankOf_39 {p : Program} {l : Launch} {e : Env} {s : State} {m : MethodId} {args : Array Value} {below : List Frame} {meth : Method} {c : Code} {D : va_G} {A : Nat → Prop} {ad0 : Nat → Nat} {n0 : Nat} (hC : XC p s m args c c_M_rankOf 4 y_M_rankOf.cls XTs XCL XNW XAL D A) (hr : meth.sig.returnType = some .int) (hlk : meth.locks = false) (hnm : meth.name = y_M_rankOf.name) {k4 : Nat → Int32 → Int32 → Int32 → XH → Option (Int32)} (n : Nat) (h : XH) (rr : Int32)  (hk4 : ∀ (r0 : Nat) (x1 : Int32) (x2 : Int32) (x3 : Int32), k4 r0 x1 x2 x3 h = some rr → XW p l e ({ frames := 0, cells := 0, slots := 0, locals := 0 } : Room) s m args below meth c 4 XCL D A ad0 n0 0 0 (MQ below (xQc D XCL n0 ad0 A (some (.int rr)) n h) args s 0 0 A) n h 4 [(0, .ref r0), (1, .int x1), (2, .int x2), (3, .int x3)] []) (r0 : Nat) (x1 : Int32) (x3 : Int32) (s0 : Int32) (s1 : Int32)  (hE : D_M_rankOf_39 k4 r0 x1 x3 s0 s1 h = some rr) : XW p l e ({ frames := 0, cells := 0, slots := 0, locals := 0 } : Room) s m args below meth c 4 XCL D A ad0 n0 0 0 (MQ below (xQc D XCL n0 ad0 A (some (.int rr)) n h) args s 0 0 A) n h 39 [(0, .ref r0), (1, .int x1), (3, .int x3)] [.int s0, .int s1] := by
  unfold D_M_rankOf_39 at hE
  refine xi_iadd hC d_M_rankOf_39 ?_
  refine xi_istore_n (lv' := [(2, .int (s1 + s0)), (0, .ref r0), (1, .int x1), (3, .int x3)]) hC d_M_rankOf_40 rfl (by decide) rfl ?_
  refine xi_iinc (v := x3 + 1) (lv' := [(3, .int (x3 + 1)), (2, .int (s1 + s0)), (0, .ref r0), (1, .int x1)]) hC d_M_rankOf_41 3 rfl rfl (by decide) rfl ?_
  refine xi_goto (tgt := 4) hC d_M_rankOf_44 (by decide) ?_
  refine xi_locs (lv' := [(0, .ref r0), (1, .int x1), (2, .int (s1 + s0)), (3, .int (x3 + 1))]) [2, 3, 1, 0] rfl ?_
  exact hk4 _ _ _ _ hE
set_option maxRecDepth 100000 in
set_option maxHeartbeats 4000000 in
theorem s_M_rankOf_4 {p : Program} {l : Launch} {e : Env} {s : State} {m : MethodId} {args : Array Value} {below : List Frame} {meth : Method} {c : Code} {D : va_G} {A : Nat → Prop} {ad0 : Nat → Nat} {n0 : Nat} (hC : XC p s m args c c_M_rankOf 4 y_M_rankOf.cls XTs XCL XNW XAL D A) (hr : meth.sig.returnType = some .int) (hlk : meth.locks = false) (hnm : meth.name = y_M_rankOf.name)   : ∀ (f : Nat) (r0 : Nat) (x1 : Int32) (x2 : Int32) (x3 : Int32) (n : Nat) (h : XH) (rr : Int32) , D_M_rankOf_4  f r0 x1 x2 x3 h = some rr → XW p l e ({ frames := 0, cells := 0, slots := 0, locals := 0 } : Room) s m args below meth c 4 XCL D A ad0 n0 0 0 (MQ below (xQc D XCL n0 ad0 A (some (.int rr)) n h) args s 0 0 A) n h 4 [(0, .ref r0), (1, .int x1), (2, .int x2), (3, .int x3)] [] := by
  intro f
  induction f with
  | zero =>
    intro r0 x1 x2 x3 n h rr hE
    exact absurd hE (by simp [D_M_rankOf_4])
  | succ fu ih =>
    intro r0 x1 x2 x3 n h rr hE
    simp only [D_M_rankOf_4] at hE
    refine xi_iload_n hC d_M_rankOf_4 rfl 3 rfl ?_
    refine xi_aload_n hC d_M_rankOf_5 rfl 0 rfl ?_
    obtain ⟨q2, hE1, hE⟩ := xb1_inv hE
    refine xi_get (C := R_M) (T := T_M) (N := 19) (ci := 4) (k := 13) hC rfl iws_M (by decide) xt_208 (by decide) (xgR_inv hE1) d_M_rankOf_6 ?_
    refine xi_iconst (v := (0 : Int32)) hC d_M_rankOf_9 (by decide) ?_
    obtain ⟨v3, hE4, hE⟩ := xb1_inv hE
    refine xi_iald hC hE4 d_M_rankOf_10 ?_
    refine xi_icmp_gt (tgt := 47) hC d_M_rankOf_11 (by decide) (fun hz5 => ?_) (fun hz5 => ?_)
    · rw [if_pos hz5] at hE
      refine xi_iload_n hC d_M_rankOf_47 rfl 2 rfl ?_
      cases hE
      exact xi_iret hC hr hlk d_M_rankOf_48
    · rw [if_neg hz5] at hE
      refine xi_iload_n hC d_M_rankOf_14 rfl 2 rfl ?_
      refine xi_aload_n hC d_M_rankOf_15 rfl 0 rfl ?_
      obtain ⟨q7, hE6, hE⟩ := xb1_inv hE
      refine xi_get (C := R_M) (T := T_M) (N := 19) (ci := 4) (k := 14) hC rfl iws_M (by decide) xt_209 (by decide) (xgR_inv hE6) d_M_rankOf_16 ?_
      refine xi_iload_n hC d_M_rankOf_19 rfl 3 rfl ?_
      refine xi_iconst (v := (1 : Int32)) hC d_M_rankOf_20 (by decide) ?_
      refine xi_isub hC d_M_rankOf_21 ?_
      obtain ⟨v8, hE9, hE⟩ := xb1_inv hE
      refine xi_iald hC hE9 d_M_rankOf_22 ?_
      refine xi_aload_n hC d_M_rankOf_23 rfl 0 rfl ?_
      obtain ⟨q11, hE10, hE⟩ := xb1_inv hE
      refine xi_get (C := R_M) (T := T_M) (N := 19) (ci := 4) (k := 14) hC rfl iws_M (by decide) xt_209 (by decide) (xgR_inv hE10) d_M_rankOf_24 ?_
      refine xi_iload_n hC d_M_rankOf_27 rfl 1 rfl ?_
      refine xi_iconst (v := (1 : Int32)) hC d_M_rankOf_28 (by decide) ?_
      refine xi_isub hC d_M_rankOf_29 ?_
      obtain ⟨v12, hE13, hE⟩ := xb1_inv hE
      refine xi_iald hC hE13 d_M_rankOf_30 ?_
      refine xi_icmp_ne (tgt := 38) hC d_M_rankOf_31 (by decide) (fun hz14 => ?_) (fun hz14 => ?_)
      · rw [if_neg hz14] at hE
        refine xi_iconst (v := (0 : Int32)) hC d_M_rankOf_38 (by decide) ?_
        refine xi_locs (lv' := [(0, .ref r0), (1, .int x1), (3, .int x3)]) [0, 1, 3] rfl ?_
        exact s_M_rankOf_39 hC hr hlk hnm _ _ _ (fun y0 y1 y2 y3 z => ih y0 y1 y2 y3 _ _ _ z) _ _ _ _ _ hE
      · rw [if_pos hz14] at hE
        refine xi_iconst (v := (1 : Int32)) hC d_M_rankOf_34 (by decide) ?_
        refine xi_goto (tgt := 39) hC d_M_rankOf_35 (by decide) ?_
        refine xi_locs (lv' := [(0, .ref r0), (1, .int x1), (3, .int x3)]) [0, 1, 3] rfl ?_
        exact s_M_rankOf_39 hC hr hlk hnm _ _ _ (fun y0 y1 y2 y3 z => ih y0 y1 y2 y3 _ _ _ z) _ _ _ _ _ hE
set_option maxRecDepth 100000 in
set_option maxHeartbeats 4000000 in
theorem s_M_rankOf_0 {p : Program} {l : Launch} {e : Env} {s : State} {m : MethodId} {args : Array Value} {below : List Frame} {meth : Method} {c : Code} {D : va_G} {A : Nat → Prop} {ad0 : Nat → Nat} {n0 : Nat} (hC : XC p s m args c c_M_rankOf 4 y_M_rankOf.cls XTs XCL XNW XAL D A) (hr : meth.sig.returnType = some .int) (hlk : meth.locks = false) (hnm : meth.name = y_M_rankOf.name)   (r0 : Nat) (x1 : Int32) (n : Nat) (h : XH) (rr : Int32)  (hE : D_M_rankOf_0  r0 x1 h = some rr) : XW p l e ({ frames := 0, cells := 0, slots := 0, locals := 0 } : Room) s m args below meth c 4 XCL D A ad0 n0 0 0 (MQ below (xQc D XCL n0 ad0 A (some (.int rr)) n h) args s 0 0 A) n h 0 [(0, .ref r0), (1, .int x1)] [] := by
  unfold D_M_rankOf_0 at hE
  refine xi_iconst (v := (0 : Int32)) hC d_M_rankOf_0 (by decide) ?_
  refine xi_istore_n (lv' := [(2, .int (0 : Int32)), (0, .ref r0), (1, .int x1)]) hC d_M_rankOf_1 rfl (by decide) rfl ?_
  refine xi_iload_n hC d_M_rankOf_2 rfl 2 rfl ?_
  refine xi_istore_n (lv' := [(3, .int x1), (2, .int (0 : Int32)), (0, .ref r0), (1, .int x1)]) hC d_M_rankOf_3 rfl (by decide) rfl ?_
  refine xi_locs (lv' := [(0, .ref r0), (1, .int x1), (2, .int (0 : Int32)), (3, .int x1)]) [2, 3, 1, 0] rfl ?_
  exact s_M_rankOf_4 hC hr hlk hnm 5000 _ _ _ _ _ _ _ hE
set_option maxRecDepth 100000 in
theorem x_M_rankOf {l : Launch} {D : va_G} {r0 : Nat} {x1 : Int32} {n : Nat} {h : XH} {rr : Int32}  (hE : X_M_rankOf r0 x1 h = some rr) : XMet l y_M_rankOf c_M_rankOf 4 (some .int) XTs XCL XNW XAL D ({ frames := 0, cells := 0, slots := 0, locals := 0 } : Room) 0 0 [.ref r0, .int x1] n h (some (.int rr)) n h := by
  refine XMet.mk (by decide) xNW_good xTs_good (Nat.le_of_ble_eq_true rfl) ?_
  intro p e s m args below meth c A ad0 hC hr hlk hnm
  refine xi_locs (lv' := [(0, .ref r0), (1, .int x1)]) [0, 1] rfl ?_
  exact s_M_rankOf_0 hC hr hlk hnm _ _ n h _ hE

set_option maxRecDepth 100000 in
set_option maxHeartbeats 4000000 in
theorem s_M_rank_34 {p : Program} {l : Launch} {e : Env} {s : State} {m : MethodId} {args : Array Value} {below : List Frame} {meth : Method} {c : Code} {D : va_G} {A : Nat → Prop} {ad0 : Nat → Nat} {n0 : Nat} (hC : XC p s m args c c_M_rank 2 y_M_rank.cls XTs XCL XNW XAL D A) (hr : meth.sig.returnType = some .int) (hlk : meth.locks = false) (hnm : meth.name = y_M_rank.name)   (s0 : Int32) (n : Nat) (h : XH) (rr : Int32) (h' : XH) (hE : D_M_rank_34  s0 h = some (rr, h')) : XW p l e ({ frames := 2, cells := 0, slots := 0, locals := 46 } : Room) s m args below meth c 2 XCL D A ad0 n0 0 0 (MQ below (xQc D XCL n0 ad0 A (some (.int rr)) n h') args s 0 0 A) n h 34 [] [.int s0] := by
  unfold D_M_rank_34 at hE
  cases hE
  exact xi_iret hC hr hlk d_M_rank_34
set_option maxRecDepth 100000 in
set_option maxHeartbeats 4000000 in
theorem s_M_rank_0 {p : Program} {l : Launch} {e : Env} {s : State} {m : MethodId} {args : Array Value} {below : List Frame} {meth : Method} {c : Code} {D : va_G} {A : Nat → Prop} {ad0 : Nat → Nat} {n0 : Nat} (hC : XC p s m args c c_M_rank 2 y_M_rank.cls XTs XCL XNW XAL D A) (hr : meth.sig.returnType = some .int) (hlk : meth.locks = false) (hnm : meth.name = y_M_rank.name)   (r0 : Nat) (x1 : Int32) (n : Nat) (h : XH) (rr : Int32) (h' : XH) (hE : D_M_rank_0  r0 x1 h = some (rr, h')) : XW p l e ({ frames := 2, cells := 0, slots := 0, locals := 46 } : Room) s m args below meth c 2 XCL D A ad0 n0 0 0 (MQ below (xQc D XCL n0 ad0 A (some (.int rr)) n h') args s 0 0 A) n h 0 [(0, .ref r0), (1, .int x1)] [] := by
  unfold D_M_rank_0 at hE
  refine xi_aload_n hC d_M_rank_0 rfl 0 rfl ?_
  refine xi_iconst (v := (0 : Int32)) hC d_M_rank_1 (by decide) ?_
  obtain ⟨h1, hE2, hE⟩ := xb1_inv hE
  refine xi_put (C := R_M) (T := T_M) (N := 19) (ci := 4) (k := 0) hC ty_M rfl iws_M tok_M nok_M (by decide) xt_219 (by decide) rfl (fun _ => rfl) (fun _ => rfl) hE2 d_M_rank_2 ?_
  refine xi_aload_n hC d_M_rank_5 rfl 0 rfl ?_
  obtain ⟨v4, hE3, hE⟩ := xb1_inv hE
  refine xi_get (C := R_M) (T := T_M) (N := 19) (ci := 4) (k := 11) hC rfl iws_M (by decide) xt_223 (by decide) (xgI_inv hE3) d_M_rank_6 ?_
  refine xi_if_ne (tgt := 17) hC d_M_rank_9 (by decide) (fun hz5 => ?_) (fun hz5 => ?_)
  · rw [if_neg hz5] at hE
    refine xi_aload_n hC d_M_rank_17 rfl 0 rfl ?_
    refine xi_iload_n hC d_M_rank_18 rfl 1 rfl ?_
    obtain ⟨hI8, hE⟩ := xchk_inv hE
    obtain ⟨v6, hE7, hE⟩ := xb1_inv hE
    refine xi_callV (as := [.int x1]) (st := []) (C := R_M) (T := T_M) (N := 19) hC (x_M_isTask hE7) rfl (by decide) hI8 xt_264 xt_265 xt_266 xt_218 xt_263 ⟨by decide, by decide, (by decide +kernel : (parseMethodDescriptor y_M_isTask.desc).map (fun d => d.parameters.length) = some 1)⟩ rfl rfl ⟨by decide, by decide⟩ ⟨by decide, by decide⟩ (Nat.le_of_ble_eq_true rfl) rfl d_M_rank_19 ?_
    refine xi_stk (st' := [.int v6]) rfl ?_
    refine xi_if_ne (tgt := 29) hC d_M_rank_22 (by decide) (fun hz9 => ?_) (fun hz9 => ?_)
    · rw [if_neg hz9] at hE
      refine xi_aload_n hC d_M_rank_29 rfl 0 rfl ?_
      refine xi_iload_n hC d_M_rank_30 rfl 1 rfl ?_
      obtain ⟨hI12, hE⟩ := xchk_inv hE
      obtain ⟨v10, hE11, hE⟩ := xb1_inv hE
      refine xi_callV (as := [.int x1]) (st := []) (C := R_M) (T := T_M) (N := 19) hC (x_M_rankOf hE11) rfl (by decide) hI12 xt_272 xt_273 xt_274 xt_218 xt_271 ⟨by decide, by decide, (by decide +kernel : (parseMethodDescriptor y_M_rankOf.desc).map (fun d => d.parameters.length) = some 1)⟩ rfl rfl ⟨by decide, by decide⟩ ⟨by decide, by decide⟩ (Nat.le_of_ble_eq_true rfl) rfl d_M_rank_31 ?_
      refine xi_stk (st' := [.int v10]) rfl ?_
      refine xi_locs (lv' := []) [] rfl ?_
      exact s_M_rank_34 hC hr hlk hnm _ _ _ _ _ hE
    · rw [if_pos hz9] at hE
      refine xi_iconst (v := (-1 : Int32)) hC d_M_rank_25 (by decide) ?_
      refine xi_goto (tgt := 34) hC d_M_rank_26 (by decide) ?_
      refine xi_locs (lv' := []) [] rfl ?_
      exact s_M_rank_34 hC hr hlk hnm _ _ _ _ _ hE
  · rw [if_pos hz5] at hE
    refine xi_bipush (v := (-3 : Int32)) hC d_M_rank_12 (by decide) ?_
    refine xi_goto (tgt := 34) hC d_M_rank_14 (by decide) ?_
    refine xi_locs (lv' := []) [] rfl ?_
    exact s_M_rank_34 hC hr hlk hnm _ _ _ _ _ hE
set_option maxRecDepth 100000 in
theorem x_M_rank {l : Launch} {D : va_G} {r0 : Nat} {x1 : Int32} {n : Nat} {h : XH} {rr : Int32} {h' : XH} (hE : X_M_rank r0 x1 h = some (rr, h')) : XMet l y_M_rank c_M_rank 2 (some .int) XTs XCL XNW XAL D ({ frames := 2, cells := 0, slots := 0, locals := 46 } : Room) 0 0 [.ref r0, .int x1] n h (some (.int rr)) n h' := by
  refine XMet.mk (by decide) xNW_good xTs_good (Nat.le_of_ble_eq_true rfl) ?_
  intro p e s m args below meth c A ad0 hC hr hlk hnm
  refine xi_locs (lv' := [(0, .ref r0), (1, .int x1)]) [0, 1] rfl ?_
  exact s_M_rank_0 hC hr hlk hnm _ _ n h _ _ hE

set_option maxRecDepth 100000 in
set_option maxHeartbeats 4000000 in
theorem s_M_isCopied_114 {p : Program} {l : Launch} {e : Env} {s : State} {m : MethodId} {args : Array Value} {below : List Frame} {meth : Method} {c : Code} {D : va_G} {A : Nat → Prop} {ad0 : Nat → Nat} {n0 : Nat} (hC : XC p s m args c c_M_isCopied 6 y_M_isCopied.cls XTs XCL XNW XAL D A) (hr : meth.sig.returnType = some .boolean) (hlk : meth.locks = false) (hnm : meth.name = y_M_isCopied.name) {k4 : Nat → Int32 → Int32 → Int32 → XH → Option (Int32)} {k15 : Nat → Int32 → Int32 → Int32 → Int32 → XH → Option (Int32)} (n : Nat) (h : XH) (rr : Int32)  (hk4 : ∀ (r0 : Nat) (x1 : Int32) (x2 : Int32) (x3 : Int32), k4 r0 x1 x2 x3 h = some rr → XW p l e ({ frames := 1, cells := 0, slots := 0, locals := 23 } : Room) s m args below meth c 6 XCL D A ad0 n0 0 0 (MQ below (xQc D XCL n0 ad0 A (some (.int rr)) n h) args s 0 0 A) n h 4 [(0, .ref r0), (1, .int x1), (2, .int x2), (3, .int x3)] []) (hk15 : ∀ (r0 : Nat) (x1 : Int32) (x2 : Int32) (x3 : Int32) (x4 : Int32), k15 r0 x1 x2 x3 x4 h = some rr → XW p l e ({ frames := 1, cells := 0, slots := 0, locals := 23 } : Room) s m args below meth c 6 XCL D A ad0 n0 0 0 (MQ below (xQc D XCL n0 ad0 A (some (.int rr)) n h) args s 0 0 A) n h 15 [(0, .ref r0), (1, .int x1), (2, .int x2), (3, .int x3), (4, .int x4)] []) (r0 : Nat) (x1 : Int32) (x3 : Int32) (x4 : Int32) (s0 : Int32)  (hE : D_M_isCopied_114 k4 k15 r0 x1 x3 x4 s0 h = some rr) : XW p l e ({ frames := 1, cells := 0, slots := 0, locals := 23 } : Room) s m args below meth c 6 XCL D A ad0 n0 0 0 (MQ below (xQc D XCL n0 ad0 A (some (.int rr)) n h) args s 0 0 A) n h 114 [(0, .ref r0), (1, .int x1), (3, .int x3), (4, .int x4)] [.int s0] := by
  unfold D_M_isCopied_114 at hE
  refine xi_istore_n (lv' := [(2, .int s0), (0, .ref r0), (1, .int x1), (3, .int x3), (4, .int x4)]) hC d_M_isCopied_114 rfl (by decide) rfl ?_
  refine xi_iinc (v := x4 + 1) (lv' := [(4, .int (x4 + 1)), (2, .int s0), (0, .ref r0), (1, .int x1), (3, .int x3)]) hC d_M_isCopied_115 4 rfl rfl (by decide) rfl ?_
  refine xi_goto (tgt := 15) hC d_M_isCopied_118 (by decide) ?_
  refine xi_locs (lv' := [(0, .ref r0), (1, .int x1), (2, .int s0), (3, .int x3), (4, .int (x4 + 1))]) [2, 3, 1, 4, 0] rfl ?_
  exact hk15 _ _ _ _ _ hE
set_option maxRecDepth 100000 in
set_option maxHeartbeats 4000000 in
theorem s_M_isCopied_113 {p : Program} {l : Launch} {e : Env} {s : State} {m : MethodId} {args : Array Value} {below : List Frame} {meth : Method} {c : Code} {D : va_G} {A : Nat → Prop} {ad0 : Nat → Nat} {n0 : Nat} (hC : XC p s m args c c_M_isCopied 6 y_M_isCopied.cls XTs XCL XNW XAL D A) (hr : meth.sig.returnType = some .boolean) (hlk : meth.locks = false) (hnm : meth.name = y_M_isCopied.name) {k4 : Nat → Int32 → Int32 → Int32 → XH → Option (Int32)} {k15 : Nat → Int32 → Int32 → Int32 → Int32 → XH → Option (Int32)} (n : Nat) (h : XH) (rr : Int32)  (hk4 : ∀ (r0 : Nat) (x1 : Int32) (x2 : Int32) (x3 : Int32), k4 r0 x1 x2 x3 h = some rr → XW p l e ({ frames := 1, cells := 0, slots := 0, locals := 23 } : Room) s m args below meth c 6 XCL D A ad0 n0 0 0 (MQ below (xQc D XCL n0 ad0 A (some (.int rr)) n h) args s 0 0 A) n h 4 [(0, .ref r0), (1, .int x1), (2, .int x2), (3, .int x3)] []) (hk15 : ∀ (r0 : Nat) (x1 : Int32) (x2 : Int32) (x3 : Int32) (x4 : Int32), k15 r0 x1 x2 x3 x4 h = some rr → XW p l e ({ frames := 1, cells := 0, slots := 0, locals := 23 } : Room) s m args below meth c 6 XCL D A ad0 n0 0 0 (MQ below (xQc D XCL n0 ad0 A (some (.int rr)) n h) args s 0 0 A) n h 15 [(0, .ref r0), (1, .int x1), (2, .int x2), (3, .int x3), (4, .int x4)] []) (r0 : Nat) (x1 : Int32) (x3 : Int32) (x4 : Int32)  (hE : D_M_isCopied_113 k4 k15 r0 x1 x3 x4 h = some rr) : XW p l e ({ frames := 1, cells := 0, slots := 0, locals := 23 } : Room) s m args below meth c 6 XCL D A ad0 n0 0 0 (MQ below (xQc D XCL n0 ad0 A (some (.int rr)) n h) args s 0 0 A) n h 113 [(0, .ref r0), (1, .int x1), (3, .int x3), (4, .int x4)] [] := by
  unfold D_M_isCopied_113 at hE
  refine xi_iconst (v := (0 : Int32)) hC d_M_isCopied_113 (by decide) ?_
  refine xi_locs (lv' := [(0, .ref r0), (1, .int x1), (3, .int x3), (4, .int x4)]) [0, 1, 2, 3] rfl ?_
  exact s_M_isCopied_114 hC hr hlk hnm _ _ _ hk4 hk15 _ _ _ _ _ hE
set_option maxRecDepth 100000 in
set_option maxHeartbeats 4000000 in
theorem s_M_isCopied_109 {p : Program} {l : Launch} {e : Env} {s : State} {m : MethodId} {args : Array Value} {below : List Frame} {meth : Method} {c : Code} {D : va_G} {A : Nat → Prop} {ad0 : Nat → Nat} {n0 : Nat} (hC : XC p s m args c c_M_isCopied 6 y_M_isCopied.cls XTs XCL XNW XAL D A) (hr : meth.sig.returnType = some .boolean) (hlk : meth.locks = false) (hnm : meth.name = y_M_isCopied.name) {k4 : Nat → Int32 → Int32 → Int32 → XH → Option (Int32)} {k15 : Nat → Int32 → Int32 → Int32 → Int32 → XH → Option (Int32)} (n : Nat) (h : XH) (rr : Int32)  (hk4 : ∀ (r0 : Nat) (x1 : Int32) (x2 : Int32) (x3 : Int32), k4 r0 x1 x2 x3 h = some rr → XW p l e ({ frames := 1, cells := 0, slots := 0, locals := 23 } : Room) s m args below meth c 6 XCL D A ad0 n0 0 0 (MQ below (xQc D XCL n0 ad0 A (some (.int rr)) n h) args s 0 0 A) n h 4 [(0, .ref r0), (1, .int x1), (2, .int x2), (3, .int x3)] []) (hk15 : ∀ (r0 : Nat) (x1 : Int32) (x2 : Int32) (x3 : Int32) (x4 : Int32), k15 r0 x1 x2 x3 x4 h = some rr → XW p l e ({ frames := 1, cells := 0, slots := 0, locals := 23 } : Room) s m args below meth c 6 XCL D A ad0 n0 0 0 (MQ below (xQc D XCL n0 ad0 A (some (.int rr)) n h) args s 0 0 A) n h 15 [(0, .ref r0), (1, .int x1), (2, .int x2), (3, .int x3), (4, .int x4)] []) (r0 : Nat) (x1 : Int32) (x3 : Int32) (x4 : Int32)  (hE : D_M_isCopied_109 k4 k15 r0 x1 x3 x4 h = some rr) : XW p l e ({ frames := 1, cells := 0, slots := 0, locals := 23 } : Room) s m args below meth c 6 XCL D A ad0 n0 0 0 (MQ below (xQc D XCL n0 ad0 A (some (.int rr)) n h) args s 0 0 A) n h 109 [(0, .ref r0), (1, .int x1), (3, .int x3), (4, .int x4)] [] := by
  unfold D_M_isCopied_109 at hE
  refine xi_iconst (v := (1 : Int32)) hC d_M_isCopied_109 (by decide) ?_
  refine xi_goto (tgt := 114) hC d_M_isCopied_110 (by decide) ?_
  refine xi_locs (lv' := [(0, .ref r0), (1, .int x1), (3, .int x3), (4, .int x4)]) [0, 1, 2, 3] rfl ?_
  exact s_M_isCopied_114 hC hr hlk hnm _ _ _ hk4 hk15 _ _ _ _ _ hE
set_option maxRecDepth 100000 in
set_option maxHeartbeats 4000000 in
theorem s_M_isCopied_74 {p : Program} {l : Launch} {e : Env} {s : State} {m : MethodId} {args : Array Value} {below : List Frame} {meth : Method} {c : Code} {D : va_G} {A : Nat → Prop} {ad0 : Nat → Nat} {n0 : Nat} (hC : XC p s m args c c_M_isCopied 6 y_M_isCopied.cls XTs XCL XNW XAL D A) (hr : meth.sig.returnType = some .boolean) (hlk : meth.locks = false) (hnm : meth.name = y_M_isCopied.name) {k4 : Nat → Int32 → Int32 → Int32 → XH → Option (Int32)} {k15 : Nat → Int32 → Int32 → Int32 → Int32 → XH → Option (Int32)} (n : Nat) (h : XH) (rr : Int32)  (hk4 : ∀ (r0 : Nat) (x1 : Int32) (x2 : Int32) (x3 : Int32), k4 r0 x1 x2 x3 h = some rr → XW p l e ({ frames := 1, cells := 0, slots := 0, locals := 23 } : Room) s m args below meth c 6 XCL D A ad0 n0 0 0 (MQ below (xQc D XCL n0 ad0 A (some (.int rr)) n h) args s 0 0 A) n h 4 [(0, .ref r0), (1, .int x1), (2, .int x2), (3, .int x3)] []) (hk15 : ∀ (r0 : Nat) (x1 : Int32) (x2 : Int32) (x3 : Int32) (x4 : Int32), k15 r0 x1 x2 x3 x4 h = some rr → XW p l e ({ frames := 1, cells := 0, slots := 0, locals := 23 } : Room) s m args below meth c 6 XCL D A ad0 n0 0 0 (MQ below (xQc D XCL n0 ad0 A (some (.int rr)) n h) args s 0 0 A) n h 15 [(0, .ref r0), (1, .int x1), (2, .int x2), (3, .int x3), (4, .int x4)] []) (r0 : Nat) (x1 : Int32) (x2 : Int32) (x3 : Int32) (x4 : Int32) (s0 : Int32)  (hE : D_M_isCopied_74 k4 k15 r0 x1 x2 x3 x4 s0 h = some rr) : XW p l e ({ frames := 1, cells := 0, slots := 0, locals := 23 } : Room) s m args below meth c 6 XCL D A ad0 n0 0 0 (MQ below (xQc D XCL n0 ad0 A (some (.int rr)) n h) args s 0 0 A) n h 74 [(0, .ref r0), (1, .int x1), (2, .int x2), (3, .int x3), (4, .int x4)] [.int s0] := by
  unfold D_M_isCopied_74 at hE
  refine xi_istore (lv' := [(5, .int s0), (0, .ref r0), (1, .int x1), (2, .int x2), (3, .int x3), (4, .int x4)]) hC d_M_isCopied_74 (by decide) rfl ?_
  refine xi_iload_n hC d_M_isCopied_76 rfl 3 rfl ?_
  refine xi_if_ne (tgt := 109) hC d_M_isCopied_77 (by decide) (fun hz1 => ?_) (fun hz1 => ?_)
  · rw [if_neg hz1] at hE
    refine xi_locs (lv' := [(0, .ref r0), (1, .int x1), (3, .int x3), (4, .int x4)]) [1, 2, 4, 5] rfl ?_
    exact s_M_isCopied_109 hC hr hlk hnm _ _ _ hk4 hk15 _ _ _ _ hE
  · rw [if_pos hz1] at hE
    refine xi_iload hC d_M_isCopied_80 0 rfl ?_
    refine xi_if_eq (tgt := 113) hC d_M_isCopied_82 (by decide) (fun hz2 => ?_) (fun hz2 => ?_)
    · rw [if_pos hz2] at hE
      refine xi_locs (lv' := [(0, .ref r0), (1, .int x1), (3, .int x3), (4, .int x4)]) [1, 2, 4, 5] rfl ?_
      exact s_M_isCopied_113 hC hr hlk hnm _ _ _ hk4 hk15 _ _ _ _ hE
    · rw [if_neg hz2] at hE
      refine xi_aload_n hC d_M_isCopied_85 rfl 1 rfl ?_
      refine xi_aload_n hC d_M_isCopied_86 rfl 1 rfl ?_
      obtain ⟨q4, hE3, hE⟩ := xb1_inv hE
      refine xi_get (C := R_M) (T := T_M) (N := 19) (ci := 4) (k := 18) hC rfl iws_M (by decide) xt_213 (by decide) (xgR_inv hE3) d_M_isCopied_87 ?_
      refine xi_iload hC d_M_isCopied_90 5 rfl ?_
      obtain ⟨v5, hE6, hE⟩ := xb1_inv hE
      refine xi_iald hC hE6 d_M_isCopied_92 ?_
      obtain ⟨hI9, hE⟩ := xchk_inv hE
      obtain ⟨v7, hE8, hE⟩ := xb1_inv hE
      refine xi_callV (as := [.int v5]) (st := []) (C := R_M) (T := T_M) (N := 19) hC (x_M_rankOf hE8) rfl (by decide) hI9 xt_272 xt_273 xt_274 xt_218 xt_271 ⟨by decide, by decide, (by decide +kernel : (parseMethodDescriptor y_M_rankOf.desc).map (fun d => d.parameters.length) = some 1)⟩ rfl rfl ⟨by decide, by decide⟩ ⟨by decide, by decide⟩ (Nat.le_of_ble_eq_true rfl) rfl d_M_isCopied_93 ?_
      refine xi_stk (st' := [.int v7]) rfl ?_
      refine xi_aload_n hC d_M_isCopied_96 rfl 1 rfl ?_
      refine xi_aload_n hC d_M_isCopied_97 rfl 1 rfl ?_
      obtain ⟨q11, hE10, hE⟩ := xb1_inv hE
      refine xi_get (C := R_M) (T := T_M) (N := 19) (ci := 4) (k := 18) hC rfl iws_M (by decide) xt_213 (by decide) (xgR_inv hE10) d_M_isCopied_98 ?_
      refine xi_iload_n hC d_M_isCopied_101 rfl 4 rfl ?_
      obtain ⟨v12, hE13, hE⟩ := xb1_inv hE
      refine xi_iald hC hE13 d_M_isCopied_102 ?_
      obtain ⟨hI16, hE⟩ := xchk_inv hE
      obtain ⟨v14, hE15, hE⟩ := xb1_inv hE
      refine xi_callV (as := [.int v12]) (st := [.int v7]) (C := R_M) (T := T_M) (N := 19) hC (x_M_rankOf hE15) rfl (by decide) hI16 xt_272 xt_273 xt_274 xt_218 xt_271 ⟨by decide, by decide, (by decide +kernel : (parseMethodDescriptor y_M_rankOf.desc).map (fun d => d.parameters.length) = some 1)⟩ rfl rfl ⟨by decide, by decide⟩ ⟨by decide, by decide⟩ (Nat.le_of_ble_eq_true rfl) rfl d_M_isCopied_103 ?_
      refine xi_stk (st' := [.int v14, .int v7]) rfl ?_
      refine xi_icmp_le (tgt := 113) hC d_M_isCopied_106 (by decide) (fun hz17 => ?_) (fun hz17 => ?_)
      · rw [if_pos hz17] at hE
        refine xi_locs (lv' := [(0, .ref r0), (1, .int x1), (3, .int x3), (4, .int x4)]) [1, 2, 4, 5] rfl ?_
        exact s_M_isCopied_113 hC hr hlk hnm _ _ _ hk4 hk15 _ _ _ _ hE
      · rw [if_neg hz17] at hE
        refine xi_locs (lv' := [(0, .ref r0), (1, .int x1), (3, .int x3), (4, .int x4)]) [1, 2, 4, 5] rfl ?_
        exact s_M_isCopied_109 hC hr hlk hnm _ _ _ hk4 hk15 _ _ _ _ hE
set_option maxRecDepth 100000 in
set_option maxHeartbeats 4000000 in
theorem s_M_isCopied_73 {p : Program} {l : Launch} {e : Env} {s : State} {m : MethodId} {args : Array Value} {below : List Frame} {meth : Method} {c : Code} {D : va_G} {A : Nat → Prop} {ad0 : Nat → Nat} {n0 : Nat} (hC : XC p s m args c c_M_isCopied 6 y_M_isCopied.cls XTs XCL XNW XAL D A) (hr : meth.sig.returnType = some .boolean) (hlk : meth.locks = false) (hnm : meth.name = y_M_isCopied.name) {k4 : Nat → Int32 → Int32 → Int32 → XH → Option (Int32)} {k15 : Nat → Int32 → Int32 → Int32 → Int32 → XH → Option (Int32)} (n : Nat) (h : XH) (rr : Int32)  (hk4 : ∀ (r0 : Nat) (x1 : Int32) (x2 : Int32) (x3 : Int32), k4 r0 x1 x2 x3 h = some rr → XW p l e ({ frames := 1, cells := 0, slots := 0, locals := 23 } : Room) s m args below meth c 6 XCL D A ad0 n0 0 0 (MQ below (xQc D XCL n0 ad0 A (some (.int rr)) n h) args s 0 0 A) n h 4 [(0, .ref r0), (1, .int x1), (2, .int x2), (3, .int x3)] []) (hk15 : ∀ (r0 : Nat) (x1 : Int32) (x2 : Int32) (x3 : Int32) (x4 : Int32), k15 r0 x1 x2 x3 x4 h = some rr → XW p l e ({ frames := 1, cells := 0, slots := 0, locals := 23 } : Room) s m args below meth c 6 XCL D A ad0 n0 0 0 (MQ below (xQc D XCL n0 ad0 A (some (.int rr)) n h) args s 0 0 A) n h 15 [(0, .ref r0), (1, .int x1), (2, .int x2), (3, .int x3), (4, .int x4)] []) (r0 : Nat) (x1 : Int32) (x2 : Int32) (x3 : Int32) (x4 : Int32)  (hE : D_M_isCopied_73 k4 k15 r0 x1 x2 x3 x4 h = some rr) : XW p l e ({ frames := 1, cells := 0, slots := 0, locals := 23 } : Room) s m args below meth c 6 XCL D A ad0 n0 0 0 (MQ below (xQc D XCL n0 ad0 A (some (.int rr)) n h) args s 0 0 A) n h 73 [(0, .ref r0), (1, .int x1), (2, .int x2), (3, .int x3), (4, .int x4)] [] := by
  unfold D_M_isCopied_73 at hE
  refine xi_iconst (v := (0 : Int32)) hC d_M_isCopied_73 (by decide) ?_
  refine xi_locs (lv' := [(0, .ref r0), (1, .int x1), (2, .int x2), (3, .int x3), (4, .int x4)]) [0, 1, 2, 3, 4] rfl ?_
  exact s_M_isCopied_74 hC hr hlk hnm _ _ _ hk4 hk15 _ _ _ _ _ _ hE
set_option maxRecDepth 100000 in
set_option maxHeartbeats 4000000 in
theorem s_M_isCopied_15 {p : Program} {l : Launch} {e : Env} {s : State} {m : MethodId} {args : Array Value} {below : List Frame} {meth : Method} {c : Code} {D : va_G} {A : Nat → Prop} {ad0 : Nat → Nat} {n0 : Nat} (hC : XC p s m args c c_M_isCopied 6 y_M_isCopied.cls XTs XCL XNW XAL D A) (hr : meth.sig.returnType = some .boolean) (hlk : meth.locks = false) (hnm : meth.name = y_M_isCopied.name) {k4 : Nat → Int32 → Int32 → Int32 → XH → Option (Int32)} (n : Nat) (h : XH) (rr : Int32)  (hk4 : ∀ (r0 : Nat) (x1 : Int32) (x2 : Int32) (x3 : Int32), k4 r0 x1 x2 x3 h = some rr → XW p l e ({ frames := 1, cells := 0, slots := 0, locals := 23 } : Room) s m args below meth c 6 XCL D A ad0 n0 0 0 (MQ below (xQc D XCL n0 ad0 A (some (.int rr)) n h) args s 0 0 A) n h 4 [(0, .ref r0), (1, .int x1), (2, .int x2), (3, .int x3)] []) : ∀ (f : Nat) (r0 : Nat) (x1 : Int32) (x2 : Int32) (x3 : Int32) (x4 : Int32) , D_M_isCopied_15 k4 f r0 x1 x2 x3 x4 h = some rr → XW p l e ({ frames := 1, cells := 0, slots := 0, locals := 23 } : Room) s m args below meth c 6 XCL D A ad0 n0 0 0 (MQ below (xQc D XCL n0 ad0 A (some (.int rr)) n h) args s 0 0 A) n h 15 [(0, .ref r0), (1, .int x1), (2, .int x2), (3, .int x3), (4, .int x4)] [] := by
  intro f
  induction f with
  | zero =>
    intro r0 x1 x2 x3 x4  hE
    exact absurd hE (by simp [D_M_isCopied_15])
  | succ fu ih =>
    intro r0 x1 x2 x3 x4  hE
    simp only [D_M_isCopied_15] at hE
    refine xi_iload hC d_M_isCopied_15 4 rfl ?_
    refine xi_aload_n hC d_M_isCopied_17 rfl 0 rfl ?_
    obtain ⟨v2, hE1, hE⟩ := xb1_inv hE
    refine xi_get (C := R_M) (T := T_M) (N := 19) (ci := 4) (k := 1) hC rfl iws_M (by decide) xt_214 (by decide) (xgI_inv hE1) d_M_isCopied_18 ?_
    refine xi_icmp_gt (tgt := 121) hC d_M_isCopied_21 (by decide) (fun hz3 => ?_) (fun hz3 => ?_)
    · rw [if_pos hz3] at hE
      refine xi_iinc (v := x3 + 1) (lv' := [(3, .int (x3 + 1)), (0, .ref r0), (1, .int x1), (2, .int x2), (4, .int x4)]) hC d_M_isCopied_121 3 rfl rfl (by decide) rfl ?_
      refine xi_goto (tgt := 4) hC d_M_isCopied_124 (by decide) ?_
      refine xi_locs (lv' := [(0, .ref r0), (1, .int x1), (2, .int x2), (3, .int (x3 + 1))]) [1, 2, 3, 0] rfl ?_
      exact hk4 _ _ _ _ hE
    · rw [if_neg hz3] at hE
      refine xi_aload_n hC d_M_isCopied_24 rfl 0 rfl ?_
      obtain ⟨q5, hE4, hE⟩ := xb1_inv hE
      refine xi_get (C := R_M) (T := T_M) (N := 19) (ci := 4) (k := 6) hC rfl iws_M (by decide) xt_204 (by decide) (xgR_inv hE4) d_M_isCopied_25 ?_
      refine xi_iload_n hC d_M_isCopied_28 rfl 1 rfl ?_
      obtain ⟨v6, hE7, hE⟩ := xb1_inv hE
      refine xi_iald hC hE7 d_M_isCopied_29 ?_
      refine xi_iload_n hC d_M_isCopied_30 rfl 3 rfl ?_
      refine xi_ishr hC d_M_isCopied_31 ?_
      refine xi_iconst (v := (1 : Int32)) hC d_M_isCopied_32 (by decide) ?_
      refine xi_iand hC d_M_isCopied_33 ?_
      refine xi_iconst (v := (1 : Int32)) hC d_M_isCopied_34 (by decide) ?_
      refine xi_icmp_ne (tgt := 73) hC d_M_isCopied_35 (by decide) (fun hz8 => ?_) (fun hz8 => ?_)
      · rw [if_neg hz8] at hE
        refine xi_locs (lv' := [(0, .ref r0), (1, .int x1), (2, .int x2), (3, .int x3), (4, .int x4)]) [0, 1, 2, 3, 4] rfl ?_
        exact s_M_isCopied_73 hC hr hlk hnm _ _ _ hk4 (fun y0 y1 y2 y3 y4 z => ih y0 y1 y2 y3 y4 z) _ _ _ _ _ hE
      · rw [if_pos hz8] at hE
        refine xi_aload_n hC d_M_isCopied_38 rfl 0 rfl ?_
        obtain ⟨q10, hE9, hE⟩ := xb1_inv hE
        refine xi_get (C := R_M) (T := T_M) (N := 19) (ci := 4) (k := 7) hC rfl iws_M (by decide) xt_205 (by decide) (xgR_inv hE9) d_M_isCopied_39 ?_
        refine xi_iload_n hC d_M_isCopied_42 rfl 1 rfl ?_
        obtain ⟨v11, hE12, hE⟩ := xb1_inv hE
        refine xi_iald hC hE12 d_M_isCopied_43 ?_
        refine xi_iload hC d_M_isCopied_44 4 rfl ?_
        refine xi_ishr hC d_M_isCopied_46 ?_
        refine xi_iconst (v := (1 : Int32)) hC d_M_isCopied_47 (by decide) ?_
        refine xi_iand hC d_M_isCopied_48 ?_
        refine xi_iconst (v := (1 : Int32)) hC d_M_isCopied_49 (by decide) ?_
        refine xi_icmp_ne (tgt := 73) hC d_M_isCopied_50 (by decide) (fun hz13 => ?_) (fun hz13 => ?_)
        · rw [if_neg hz13] at hE
          refine xi_locs (lv' := [(0, .ref r0), (1, .int x1), (2, .int x2), (3, .int x3), (4, .int x4)]) [0, 1, 2, 3, 4] rfl ?_
          exact s_M_isCopied_73 hC hr hlk hnm _ _ _ hk4 (fun y0 y1 y2 y3 y4 z => ih y0 y1 y2 y3 y4 z) _ _ _ _ _ hE
        · rw [if_pos hz13] at hE
          refine xi_aload_n hC d_M_isCopied_53 rfl 0 rfl ?_
          obtain ⟨q15, hE14, hE⟩ := xb1_inv hE
          refine xi_get (C := R_M) (T := T_M) (N := 19) (ci := 4) (k := 3) hC rfl iws_M (by decide) xt_201 (by decide) (xgR_inv hE14) d_M_isCopied_54 ?_
          refine xi_iload_n hC d_M_isCopied_57 rfl 3 rfl ?_
          obtain ⟨v16, hE17, hE⟩ := xb1_inv hE
          refine xi_iald hC hE17 d_M_isCopied_58 ?_
          refine xi_aload_n hC d_M_isCopied_59 rfl 0 rfl ?_
          obtain ⟨q19, hE18, hE⟩ := xb1_inv hE
          refine xi_get (C := R_M) (T := T_M) (N := 19) (ci := 4) (k := 3) hC rfl iws_M (by decide) xt_201 (by decide) (xgR_inv hE18) d_M_isCopied_60 ?_
          refine xi_iload hC d_M_isCopied_63 4 rfl ?_
          obtain ⟨v20, hE21, hE⟩ := xb1_inv hE
          refine xi_iald hC hE21 d_M_isCopied_65 ?_
          refine xi_icmp_ne (tgt := 73) hC d_M_isCopied_66 (by decide) (fun hz22 => ?_) (fun hz22 => ?_)
          · rw [if_neg hz22] at hE
            refine xi_locs (lv' := [(0, .ref r0), (1, .int x1), (2, .int x2), (3, .int x3), (4, .int x4)]) [0, 1, 2, 3, 4] rfl ?_
            exact s_M_isCopied_73 hC hr hlk hnm _ _ _ hk4 (fun y0 y1 y2 y3 y4 z => ih y0 y1 y2 y3 y4 z) _ _ _ _ _ hE
          · rw [if_pos hz22] at hE
            refine xi_iconst (v := (1 : Int32)) hC d_M_isCopied_69 (by decide) ?_
            refine xi_goto (tgt := 74) hC d_M_isCopied_70 (by decide) ?_
            refine xi_locs (lv' := [(0, .ref r0), (1, .int x1), (2, .int x2), (3, .int x3), (4, .int x4)]) [0, 1, 2, 3, 4] rfl ?_
            exact s_M_isCopied_74 hC hr hlk hnm _ _ _ hk4 (fun y0 y1 y2 y3 y4 z => ih y0 y1 y2 y3 y4 z) _ _ _ _ _ _ hE
set_option maxRecDepth 100000 in
set_option maxHeartbeats 4000000 in
theorem s_M_isCopied_4 {p : Program} {l : Launch} {e : Env} {s : State} {m : MethodId} {args : Array Value} {below : List Frame} {meth : Method} {c : Code} {D : va_G} {A : Nat → Prop} {ad0 : Nat → Nat} {n0 : Nat} (hC : XC p s m args c c_M_isCopied 6 y_M_isCopied.cls XTs XCL XNW XAL D A) (hr : meth.sig.returnType = some .boolean) (hlk : meth.locks = false) (hnm : meth.name = y_M_isCopied.name)   : ∀ (f : Nat) (r0 : Nat) (x1 : Int32) (x2 : Int32) (x3 : Int32) (n : Nat) (h : XH) (rr : Int32) , D_M_isCopied_4  f r0 x1 x2 x3 h = some rr → XW p l e ({ frames := 1, cells := 0, slots := 0, locals := 23 } : Room) s m args below meth c 6 XCL D A ad0 n0 0 0 (MQ below (xQc D XCL n0 ad0 A (some (.int rr)) n h) args s 0 0 A) n h 4 [(0, .ref r0), (1, .int x1), (2, .int x2), (3, .int x3)] [] := by
  intro f
  induction f with
  | zero =>
    intro r0 x1 x2 x3 n h rr hE
    exact absurd hE (by simp [D_M_isCopied_4])
  | succ fu ih =>
    intro r0 x1 x2 x3 n h rr hE
    simp only [D_M_isCopied_4] at hE
    refine xi_iload_n hC d_M_isCopied_4 rfl 3 rfl ?_
    refine xi_aload_n hC d_M_isCopied_5 rfl 0 rfl ?_
    obtain ⟨v2, hE1, hE⟩ := xb1_inv hE
    refine xi_get (C := R_M) (T := T_M) (N := 19) (ci := 4) (k := 1) hC rfl iws_M (by decide) xt_214 (by decide) (xgI_inv hE1) d_M_isCopied_6 ?_
    refine xi_icmp_gt (tgt := 127) hC d_M_isCopied_9 (by decide) (fun hz3 => ?_) (fun hz3 => ?_)
    · rw [if_pos hz3] at hE
      refine xi_iload_n hC d_M_isCopied_127 rfl 2 rfl ?_
      obtain ⟨hb4, hE⟩ := xchk_inv hE
      cases hE
      exact xi_zret hC hr (xzb_nar hb4) hlk d_M_isCopied_128
    · rw [if_neg hz3] at hE
      refine xi_iconst (v := (1 : Int32)) hC d_M_isCopied_12 (by decide) ?_
      refine xi_istore (lv' := [(4, .int (1 : Int32)), (0, .ref r0), (1, .int x1), (2, .int x2), (3, .int x3)]) hC d_M_isCopied_13 (by decide) rfl ?_
      refine xi_locs (lv' := [(0, .ref r0), (1, .int x1), (2, .int x2), (3, .int x3), (4, .int (1 : Int32))]) [1, 2, 3, 4, 0] rfl ?_
      exact s_M_isCopied_15 hC hr hlk hnm _ _ _ (fun y0 y1 y2 y3 z => ih y0 y1 y2 y3 _ _ _ z) 5000 _ _ _ _ _ hE
set_option maxRecDepth 100000 in
set_option maxHeartbeats 4000000 in
theorem s_M_isCopied_0 {p : Program} {l : Launch} {e : Env} {s : State} {m : MethodId} {args : Array Value} {below : List Frame} {meth : Method} {c : Code} {D : va_G} {A : Nat → Prop} {ad0 : Nat → Nat} {n0 : Nat} (hC : XC p s m args c c_M_isCopied 6 y_M_isCopied.cls XTs XCL XNW XAL D A) (hr : meth.sig.returnType = some .boolean) (hlk : meth.locks = false) (hnm : meth.name = y_M_isCopied.name)   (r0 : Nat) (x1 : Int32) (n : Nat) (h : XH) (rr : Int32)  (hE : D_M_isCopied_0  r0 x1 h = some rr) : XW p l e ({ frames := 1, cells := 0, slots := 0, locals := 23 } : Room) s m args below meth c 6 XCL D A ad0 n0 0 0 (MQ below (xQc D XCL n0 ad0 A (some (.int rr)) n h) args s 0 0 A) n h 0 [(0, .ref r0), (1, .int x1)] [] := by
  unfold D_M_isCopied_0 at hE
  refine xi_iconst (v := (0 : Int32)) hC d_M_isCopied_0 (by decide) ?_
  refine xi_istore_n (lv' := [(2, .int (0 : Int32)), (0, .ref r0), (1, .int x1)]) hC d_M_isCopied_1 rfl (by decide) rfl ?_
  refine xi_iconst (v := (1 : Int32)) hC d_M_isCopied_2 (by decide) ?_
  refine xi_istore_n (lv' := [(3, .int (1 : Int32)), (2, .int (0 : Int32)), (0, .ref r0), (1, .int x1)]) hC d_M_isCopied_3 rfl (by decide) rfl ?_
  refine xi_locs (lv' := [(0, .ref r0), (1, .int x1), (2, .int (0 : Int32)), (3, .int (1 : Int32))]) [2, 3, 1, 0] rfl ?_
  exact s_M_isCopied_4 hC hr hlk hnm 5000 _ _ _ _ _ _ _ hE
set_option maxRecDepth 100000 in
theorem x_M_isCopied {l : Launch} {D : va_G} {r0 : Nat} {x1 : Int32} {n : Nat} {h : XH} {rr : Int32}  (hE : X_M_isCopied r0 x1 h = some rr) : XMet l y_M_isCopied c_M_isCopied 6 (some .boolean) XTs XCL XNW XAL D ({ frames := 1, cells := 0, slots := 0, locals := 23 } : Room) 0 0 [.ref r0, .int x1] n h (some (.int rr)) n h := by
  refine XMet.mk (by decide) xNW_good xTs_good (Nat.le_of_ble_eq_true rfl) ?_
  intro p e s m args below meth c A ad0 hC hr hlk hnm
  refine xi_locs (lv' := [(0, .ref r0), (1, .int x1)]) [0, 1] rfl ?_
  exact s_M_isCopied_0 hC hr hlk hnm _ _ n h _ hE

set_option maxRecDepth 100000 in
set_option maxHeartbeats 4000000 in
theorem s_M_buffer_45 {p : Program} {l : Launch} {e : Env} {s : State} {m : MethodId} {args : Array Value} {below : List Frame} {meth : Method} {c : Code} {D : va_G} {A : Nat → Prop} {ad0 : Nat → Nat} {n0 : Nat} (hC : XC p s m args c c_M_buffer 2 y_M_buffer.cls XTs XCL XNW XAL D A) (hr : meth.sig.returnType = some .int) (hlk : meth.locks = false) (hnm : meth.name = y_M_buffer.name)   (s0 : Int32) (n : Nat) (h : XH) (rr : Int32) (h' : XH) (hE : D_M_buffer_45  s0 h = some (rr, h')) : XW p l e ({ frames := 2, cells := 0, slots := 0, locals := 48 } : Room) s m args below meth c 2 XCL D A ad0 n0 0 0 (MQ below (xQc D XCL n0 ad0 A (some (.int rr)) n h') args s 0 0 A) n h 45 [] [.int s0] := by
  unfold D_M_buffer_45 at hE
  cases hE
  exact xi_iret hC hr hlk d_M_buffer_45
set_option maxRecDepth 100000 in
set_option maxHeartbeats 4000000 in
theorem s_M_buffer_0 {p : Program} {l : Launch} {e : Env} {s : State} {m : MethodId} {args : Array Value} {below : List Frame} {meth : Method} {c : Code} {D : va_G} {A : Nat → Prop} {ad0 : Nat → Nat} {n0 : Nat} (hC : XC p s m args c c_M_buffer 2 y_M_buffer.cls XTs XCL XNW XAL D A) (hr : meth.sig.returnType = some .int) (hlk : meth.locks = false) (hnm : meth.name = y_M_buffer.name)   (r0 : Nat) (x1 : Int32) (n : Nat) (h : XH) (rr : Int32) (h' : XH) (hE : D_M_buffer_0  r0 x1 h = some (rr, h')) : XW p l e ({ frames := 2, cells := 0, slots := 0, locals := 48 } : Room) s m args below meth c 2 XCL D A ad0 n0 0 0 (MQ below (xQc D XCL n0 ad0 A (some (.int rr)) n h') args s 0 0 A) n h 0 [(0, .ref r0), (1, .int x1)] [] := by
  unfold D_M_buffer_0 at hE
  refine xi_aload_n hC d_M_buffer_0 rfl 0 rfl ?_
  refine xi_iconst (v := (0 : Int32)) hC d_M_buffer_1 (by decide) ?_
  obtain ⟨h1, hE2, hE⟩ := xb1_inv hE
  refine xi_put (C := R_M) (T := T_M) (N := 19) (ci := 4) (k := 0) hC ty_M rfl iws_M tok_M nok_M (by decide) xt_219 (by decide) rfl (fun _ => rfl) (fun _ => rfl) hE2 d_M_buffer_2 ?_
  refine xi_iload_n hC d_M_buffer_5 rfl 1 rfl ?_
  refine xi_i2l hC d_M_buffer_6 ?_
  refine xi_lconst (v := (1 : Int64)) hC d_M_buffer_7 (by decide) ?_
  refine xi_ldc2 (v := (20 : Int64)) hC d_M_buffer_8 xt_237 ?_
  obtain ⟨v3, hE4, hE⟩ := xb1_inv hE
  refine xi_callS (as := [.long (x1.toInt64), .long (1 : Int64), .long (20 : Int64)]) (st := []) hC (x_M_isIn hE4) xt_216 xt_217 xt_218 xt_215 ⟨by decide, by decide, (by decide +kernel : (parseMethodDescriptor y_M_isIn.desc).map (fun d => d.parameters.length) = some 3)⟩ rfl rfl ⟨by decide, by decide⟩ ⟨by decide, by decide⟩ (Nat.le_of_ble_eq_true rfl) rfl d_M_buffer_11 ?_
  refine xi_stk (st' := [.int v3]) rfl ?_
  refine xi_if_ne (tgt := 20) hC d_M_buffer_14 (by decide) (fun hz5 => ?_) (fun hz5 => ?_)
  · rw [if_neg hz5] at hE
    refine xi_aload_n hC d_M_buffer_20 rfl 0 rfl ?_
    obtain ⟨v7, hE6, hE⟩ := xb1_inv hE
    refine xi_get (C := R_M) (T := T_M) (N := 19) (ci := 4) (k := 11) hC rfl iws_M (by decide) xt_223 (by decide) (xgI_inv hE6) d_M_buffer_21 ?_
    refine xi_if_ne (tgt := 32) hC d_M_buffer_24 (by decide) (fun hz8 => ?_) (fun hz8 => ?_)
    · rw [if_neg hz8] at hE
      refine xi_aload_n hC d_M_buffer_32 rfl 0 rfl ?_
      refine xi_iload_n hC d_M_buffer_33 rfl 1 rfl ?_
      obtain ⟨hI11, hE⟩ := xchk_inv hE
      obtain ⟨v9, hE10, hE⟩ := xb1_inv hE
      refine xi_callV (as := [.int x1]) (st := []) (C := R_M) (T := T_M) (N := 19) hC (x_M_isCopied hE10) rfl (by decide) hI11 xt_276 xt_277 xt_278 xt_218 xt_275 ⟨by decide, by decide, (by decide +kernel : (parseMethodDescriptor y_M_isCopied.desc).map (fun d => d.parameters.length) = some 1)⟩ rfl rfl ⟨by decide, by decide⟩ ⟨by decide, by decide⟩ (Nat.le_of_ble_eq_true rfl) rfl d_M_buffer_34 ?_
      refine xi_stk (st' := [.int v9]) rfl ?_
      refine xi_if_eq (tgt := 44) hC d_M_buffer_37 (by decide) (fun hz12 => ?_) (fun hz12 => ?_)
      · rw [if_pos hz12] at hE
        refine xi_iconst (v := (0 : Int32)) hC d_M_buffer_44 (by decide) ?_
        refine xi_locs (lv' := []) [] rfl ?_
        exact s_M_buffer_45 hC hr hlk hnm _ _ _ _ _ hE
      · rw [if_neg hz12] at hE
        refine xi_iconst (v := (1 : Int32)) hC d_M_buffer_40 (by decide) ?_
        refine xi_goto (tgt := 45) hC d_M_buffer_41 (by decide) ?_
        refine xi_locs (lv' := []) [] rfl ?_
        exact s_M_buffer_45 hC hr hlk hnm _ _ _ _ _ hE
    · rw [if_pos hz8] at hE
      refine xi_bipush (v := (-3 : Int32)) hC d_M_buffer_27 (by decide) ?_
      refine xi_goto (tgt := 45) hC d_M_buffer_29 (by decide) ?_
      refine xi_locs (lv' := []) [] rfl ?_
      exact s_M_buffer_45 hC hr hlk hnm _ _ _ _ _ hE
  · rw [if_pos hz5] at hE
    refine xi_bipush (v := (-2 : Int32)) hC d_M_buffer_17 (by decide) ?_
    cases hE
    exact xi_iret hC hr hlk d_M_buffer_19
set_option maxRecDepth 100000 in
theorem x_M_buffer {l : Launch} {D : va_G} {r0 : Nat} {x1 : Int32} {n : Nat} {h : XH} {rr : Int32} {h' : XH} (hE : X_M_buffer r0 x1 h = some (rr, h')) : XMet l y_M_buffer c_M_buffer 2 (some .int) XTs XCL XNW XAL D ({ frames := 2, cells := 0, slots := 0, locals := 48 } : Room) 0 0 [.ref r0, .int x1] n h (some (.int rr)) n h' := by
  refine XMet.mk (by decide) xNW_good xTs_good (Nat.le_of_ble_eq_true rfl) ?_
  intro p e s m args below meth c A ad0 hC hr hlk hnm
  refine xi_locs (lv' := [(0, .ref r0), (1, .int x1)]) [0, 1] rfl ?_
  exact s_M_buffer_0 hC hr hlk hnm _ _ n h _ _ hE

set_option maxRecDepth 100000 in
set_option maxHeartbeats 4000000 in
theorem s_M_table_75 {p : Program} {l : Launch} {e : Env} {s : State} {m : MethodId} {args : Array Value} {below : List Frame} {meth : Method} {c : Code} {D : va_G} {A : Nat → Prop} {ad0 : Nat → Nat} {n0 : Nat} (hC : XC p s m args c c_M_table 5 y_M_table.cls XTs XCL XNW XAL D A) (hr : meth.sig.returnType = some .int) (hlk : meth.locks = false) (hnm : meth.name = y_M_table.name) {k27 : Nat → Int32 → Int32 → Int32 → Int32 → XH → Option (Int32 × XH)} (n : Nat) (rr : Int32) (h' : XH) (hk27 : ∀ (r0 : Nat) (x1 : Int32) (x2 : Int32) (x3 : Int32) (x4 : Int32) (h1 : XH), k27 r0 x1 x2 x3 x4 h1 = some (rr, h') → XW p l e ({ frames := 0, cells := 0, slots := 0, locals := 0 } : Room) s m args below meth c 5 XCL D A ad0 n0 0 0 (MQ below (xQc D XCL n0 ad0 A (some (.int rr)) n h') args s 0 0 A) n h1 27 [(0, .ref r0), (1, .int x1), (2, .int x2), (3, .int x3), (4, .int x4)] []) (r0 : Nat) (x1 : Int32) (x2 : Int32) (x3 : Int32) (x4 : Int32) (h : XH)  (hE : D_M_table_75 k27 r0 x1 x2 x3 x4 h = some (rr, h')) : XW p l e ({ frames := 0, cells := 0, slots := 0, locals := 0 } : Room) s m args below meth c 5 XCL D A ad0 n0 0 0 (MQ below (xQc D XCL n0 ad0 A (some (.int rr)) n h') args s 0 0 A) n h 75 [(0, .ref r0), (1, .int x1), (2, .int x2), (3, .int x3), (4, .int x4)] [] := by
  unfold D_M_table_75 at hE
  refine xi_iinc (v := x4 + 1) (lv' := [(4, .int (x4 + 1)), (0, .ref r0), (1, .int x1), (2, .int x2), (3, .int x3)]) hC d_M_table_75 4 rfl rfl (by decide) rfl ?_
  refine xi_goto (tgt := 27) hC d_M_table_78 (by decide) ?_
  refine xi_locs (lv' := [(0, .ref r0), (1, .int x1), (2, .int x2), (3, .int x3), (4, .int (x4 + 1))]) [1, 2, 3, 4, 0] rfl ?_
  exact hk27 _ _ _ _ _ _ hE
set_option maxRecDepth 100000 in
set_option maxHeartbeats 4000000 in
theorem s_M_table_27 {p : Program} {l : Launch} {e : Env} {s : State} {m : MethodId} {args : Array Value} {below : List Frame} {meth : Method} {c : Code} {D : va_G} {A : Nat → Prop} {ad0 : Nat → Nat} {n0 : Nat} (hC : XC p s m args c c_M_table 5 y_M_table.cls XTs XCL XNW XAL D A) (hr : meth.sig.returnType = some .int) (hlk : meth.locks = false) (hnm : meth.name = y_M_table.name)   : ∀ (f : Nat) (r0 : Nat) (x1 : Int32) (x2 : Int32) (x3 : Int32) (x4 : Int32) (n : Nat) (h : XH) (rr : Int32) (h' : XH), D_M_table_27  f r0 x1 x2 x3 x4 h = some (rr, h') → XW p l e ({ frames := 0, cells := 0, slots := 0, locals := 0 } : Room) s m args below meth c 5 XCL D A ad0 n0 0 0 (MQ below (xQc D XCL n0 ad0 A (some (.int rr)) n h') args s 0 0 A) n h 27 [(0, .ref r0), (1, .int x1), (2, .int x2), (3, .int x3), (4, .int x4)] [] := by
  intro f
  induction f with
  | zero =>
    intro r0 x1 x2 x3 x4 n h rr h' hE
    exact absurd hE (by simp [D_M_table_27])
  | succ fu ih =>
    intro r0 x1 x2 x3 x4 n h rr h' hE
    simp only [D_M_table_27] at hE
    refine xi_iload hC d_M_table_27 4 rfl ?_
    refine xi_aload_n hC d_M_table_29 rfl 0 rfl ?_
    obtain ⟨q2, hE1, hE⟩ := xb1_inv hE
    refine xi_get (C := R_M) (T := T_M) (N := 19) (ci := 4) (k := 13) hC rfl iws_M (by decide) xt_208 (by decide) (xgR_inv hE1) d_M_table_30 ?_
    refine xi_iconst (v := (0 : Int32)) hC d_M_table_33 (by decide) ?_
    obtain ⟨v3, hE4, hE⟩ := xb1_inv hE
    refine xi_iald hC hE4 d_M_table_34 ?_
    refine xi_icmp_gt (tgt := 81) hC d_M_table_35 (by decide) (fun hz5 => ?_) (fun hz5 => ?_)
    · rw [if_pos hz5] at hE
      refine xi_iconst (v := (0 : Int32)) hC d_M_table_81 (by decide) ?_
      cases hE
      exact xi_iret hC hr hlk d_M_table_82
    · rw [if_neg hz5] at hE
      refine xi_aload_n hC d_M_table_38 rfl 0 rfl ?_
      obtain ⟨q7, hE6, hE⟩ := xb1_inv hE
      refine xi_get (C := R_M) (T := T_M) (N := 19) (ci := 4) (k := 15) hC rfl iws_M (by decide) xt_210 (by decide) (xgR_inv hE6) d_M_table_39 ?_
      refine xi_iload hC d_M_table_42 4 rfl ?_
      refine xi_iconst (v := (1 : Int32)) hC d_M_table_44 (by decide) ?_
      refine xi_isub hC d_M_table_45 ?_
      obtain ⟨v8, hE9, hE⟩ := xb1_inv hE
      refine xi_iald hC hE9 d_M_table_46 ?_
      refine xi_if_le (tgt := 75) hC d_M_table_47 (by decide) (fun hz10 => ?_) (fun hz10 => ?_)
      · rw [if_pos hz10] at hE
        refine xi_locs (lv' := [(0, .ref r0), (1, .int x1), (2, .int x2), (3, .int x3), (4, .int x4)]) [0, 1, 2, 3, 4] rfl ?_
        exact s_M_table_75 hC hr hlk hnm _ _ _ (fun y0 y1 y2 y3 y4 h1 z => ih y0 y1 y2 y3 y4 _ h1 _ _ z) _ _ _ _ _ _ hE
      · rw [if_neg hz10] at hE
        refine xi_iload_n hC d_M_table_50 rfl 1 rfl ?_
        refine xi_aload_n hC d_M_table_51 rfl 0 rfl ?_
        obtain ⟨q12, hE11, hE⟩ := xb1_inv hE
        refine xi_get (C := R_M) (T := T_M) (N := 19) (ci := 4) (k := 15) hC rfl iws_M (by decide) xt_210 (by decide) (xgR_inv hE11) d_M_table_52 ?_
        refine xi_iload hC d_M_table_55 4 rfl ?_
        refine xi_iconst (v := (1 : Int32)) hC d_M_table_57 (by decide) ?_
        refine xi_isub hC d_M_table_58 ?_
        obtain ⟨v13, hE14, hE⟩ := xb1_inv hE
        refine xi_iald hC hE14 d_M_table_59 ?_
        by_cases hz15 : v13 = 0
        · rw [if_pos hz15] at hE; cases hE
        rw [if_neg hz15] at hE
        refine xi_irem hC d_M_table_60 hz15 ?_
        refine xi_if_ne (tgt := 75) hC d_M_table_61 (by decide) (fun hz16 => ?_) (fun hz16 => ?_)
        · rw [if_neg hz16] at hE
          refine xi_locs (lv' := [(0, .ref r0), (1, .int x1), (2, .int x2), (3, .int x3), (4, .int x4)]) [0, 1, 2, 3, 4] rfl ?_
          exact s_M_table_75 hC hr hlk hnm _ _ _ (fun y0 y1 y2 y3 y4 h1 z => ih y0 y1 y2 y3 y4 _ h1 _ _ z) _ _ _ _ _ _ hE
        · rw [if_pos hz16] at hE
          refine xi_iload_n hC d_M_table_64 rfl 3 rfl ?_
          refine xi_iload_n hC d_M_table_65 rfl 2 rfl ?_
          refine xi_icmp_ne (tgt := 72) hC d_M_table_66 (by decide) (fun hz17 => ?_) (fun hz17 => ?_)
          · rw [if_neg hz17] at hE
            refine xi_iinc (v := x3 + 1) (lv' := [(3, .int (x3 + 1)), (0, .ref r0), (1, .int x1), (2, .int x2), (4, .int x4)]) hC d_M_table_72 3 rfl rfl (by decide) rfl ?_
            refine xi_locs (lv' := [(0, .ref r0), (1, .int x1), (2, .int x2), (3, .int (x3 + 1)), (4, .int x4)]) [1, 2, 3, 0, 4] rfl ?_
            exact s_M_table_75 hC hr hlk hnm _ _ _ (fun y0 y1 y2 y3 y4 h1 z => ih y0 y1 y2 y3 y4 _ h1 _ _ z) _ _ _ _ _ _ hE
          · rw [if_pos hz17] at hE
            refine xi_iload hC d_M_table_69 4 rfl ?_
            cases hE
            exact xi_iret hC hr hlk d_M_table_71
set_option maxRecDepth 100000 in
set_option maxHeartbeats 4000000 in
theorem s_M_table_0 {p : Program} {l : Launch} {e : Env} {s : State} {m : MethodId} {args : Array Value} {below : List Frame} {meth : Method} {c : Code} {D : va_G} {A : Nat → Prop} {ad0 : Nat → Nat} {n0 : Nat} (hC : XC p s m args c c_M_table 5 y_M_table.cls XTs XCL XNW XAL D A) (hr : meth.sig.returnType = some .int) (hlk : meth.locks = false) (hnm : meth.name = y_M_table.name)   (r0 : Nat) (x1 : Int32) (x2 : Int32) (n : Nat) (h : XH) (rr : Int32) (h' : XH) (hE : D_M_table_0  r0 x1 x2 h = some (rr, h')) : XW p l e ({ frames := 0, cells := 0, slots := 0, locals := 0 } : Room) s m args below meth c 5 XCL D A ad0 n0 0 0 (MQ below (xQc D XCL n0 ad0 A (some (.int rr)) n h') args s 0 0 A) n h 0 [(0, .ref r0), (1, .int x1), (2, .int x2)] [] := by
  unfold D_M_table_0 at hE
  refine xi_aload_n hC d_M_table_0 rfl 0 rfl ?_
  refine xi_iconst (v := (0 : Int32)) hC d_M_table_1 (by decide) ?_
  obtain ⟨h1, hE2, hE⟩ := xb1_inv hE
  refine xi_put (C := R_M) (T := T_M) (N := 19) (ci := 4) (k := 0) hC ty_M rfl iws_M tok_M nok_M (by decide) xt_219 (by decide) rfl (fun _ => rfl) (fun _ => rfl) hE2 d_M_table_2 ?_
  refine xi_iload_n hC d_M_table_5 rfl 1 rfl ?_
  refine xi_if_ge (tgt := 12) hC d_M_table_6 (by decide) (fun hz3 => ?_) (fun hz3 => ?_)
  · rw [if_pos hz3] at hE
    refine xi_aload_n hC d_M_table_12 rfl 0 rfl ?_
    obtain ⟨v5, hE4, hE⟩ := xb1_inv hE
    refine xi_get (C := R_M) (T := T_M) (N := 19) (ci := 4) (k := 11) hC rfl iws_M (by decide) xt_223 (by decide) (xgI_inv hE4) d_M_table_13 ?_
    refine xi_if_ne (tgt := 22) hC d_M_table_16 (by decide) (fun hz6 => ?_) (fun hz6 => ?_)
    · rw [if_neg hz6] at hE
      refine xi_iconst (v := (0 : Int32)) hC d_M_table_22 (by decide) ?_
      refine xi_istore_n (lv' := [(3, .int (0 : Int32)), (0, .ref r0), (1, .int x1), (2, .int x2)]) hC d_M_table_23 rfl (by decide) rfl ?_
      refine xi_iconst (v := (1 : Int32)) hC d_M_table_24 (by decide) ?_
      refine xi_istore (lv' := [(4, .int (1 : Int32)), (3, .int (0 : Int32)), (0, .ref r0), (1, .int x1), (2, .int x2)]) hC d_M_table_25 (by decide) rfl ?_
      refine xi_locs (lv' := [(0, .ref r0), (1, .int x1), (2, .int x2), (3, .int (0 : Int32)), (4, .int (1 : Int32))]) [2, 3, 4, 1, 0] rfl ?_
      exact s_M_table_27 hC hr hlk hnm 5000 _ _ _ _ _ _ _ _ _ hE
    · rw [if_pos hz6] at hE
      refine xi_bipush (v := (-3 : Int32)) hC d_M_table_19 (by decide) ?_
      cases hE
      exact xi_iret hC hr hlk d_M_table_21
  · rw [if_neg hz3] at hE
    refine xi_bipush (v := (-2 : Int32)) hC d_M_table_9 (by decide) ?_
    cases hE
    exact xi_iret hC hr hlk d_M_table_11
set_option maxRecDepth 100000 in
theorem x_M_table {l : Launch} {D : va_G} {r0 : Nat} {x1 : Int32} {x2 : Int32} {n : Nat} {h : XH} {rr : Int32} {h' : XH} (hE : X_M_table r0 x1 x2 h = some (rr, h')) : XMet l y_M_table c_M_table 5 (some .int) XTs XCL XNW XAL D ({ frames := 0, cells := 0, slots := 0, locals := 0 } : Room) 0 0 [.ref r0, .int x1, .int x2] n h (some (.int rr)) n h' := by
  refine XMet.mk (by decide) xNW_good xTs_good (Nat.le_of_ble_eq_true rfl) ?_
  intro p e s m args below meth c A ad0 hC hr hlk hnm
  refine xi_locs (lv' := [(0, .ref r0), (1, .int x1), (2, .int x2)]) [0, 1, 2] rfl ?_
  exact s_M_table_0 hC hr hlk hnm _ _ _ n h _ _ hE

set_option maxRecDepth 100000 in
set_option maxHeartbeats 4000000 in
theorem s_M_cross_155 {p : Program} {l : Launch} {e : Env} {s : State} {m : MethodId} {args : Array Value} {below : List Frame} {meth : Method} {c : Code} {D : va_G} {A : Nat → Prop} {ad0 : Nat → Nat} {n0 : Nat} (hC : XC p s m args c c_M_cross 7 y_M_cross.cls XTs XCL XNW XAL D A) (hr : meth.sig.returnType = some .int) (hlk : meth.locks = false) (hnm : meth.name = y_M_cross.name) {k34 : Nat → Int32 → Int32 → Int32 → XH → Option (Int32 × XH)} (n : Nat) (rr : Int32) (h' : XH) (hk34 : ∀ (r0 : Nat) (x1 : Int32) (x2 : Int32) (x3 : Int32) (h1 : XH), k34 r0 x1 x2 x3 h1 = some (rr, h') → XW p l e ({ frames := 1, cells := 0, slots := 0, locals := 25 } : Room) s m args below meth c 7 XCL D A ad0 n0 0 0 (MQ below (xQc D XCL n0 ad0 A (some (.int rr)) n h') args s 0 0 A) n h1 34 [(0, .ref r0), (1, .int x1), (2, .int x2), (3, .int x3)] []) (r0 : Nat) (x1 : Int32) (x3 : Int32) (s0 : Int32) (s1 : Int32) (h : XH)  (hE : D_M_cross_155 k34 r0 x1 x3 s0 s1 h = some (rr, h')) : XW p l e ({ frames := 1, cells := 0, slots := 0, locals := 25 } : Room) s m args below meth c 7 XCL D A ad0 n0 0 0 (MQ below (xQc D XCL n0 ad0 A (some (.int rr)) n h') args s 0 0 A) n h 155 [(0, .ref r0), (1, .int x1), (3, .int x3)] [.int s0, .int s1] := by
  unfold D_M_cross_155 at hE
  refine xi_iadd hC d_M_cross_155 ?_
  refine xi_istore_n (lv' := [(2, .int (s1 + s0)), (0, .ref r0), (1, .int x1), (3, .int x3)]) hC d_M_cross_156 rfl (by decide) rfl ?_
  refine xi_iinc (v := x3 + 1) (lv' := [(3, .int (x3 + 1)), (2, .int (s1 + s0)), (0, .ref r0), (1, .int x1)]) hC d_M_cross_157 3 rfl rfl (by decide) rfl ?_
  refine xi_goto (tgt := 34) hC d_M_cross_160 (by decide) ?_
  refine xi_locs (lv' := [(0, .ref r0), (1, .int x1), (2, .int (s1 + s0)), (3, .int (x3 + 1))]) [2, 3, 1, 0] rfl ?_
  exact hk34 _ _ _ _ _ hE
set_option maxRecDepth 100000 in
set_option maxHeartbeats 4000000 in
theorem s_M_cross_154 {p : Program} {l : Launch} {e : Env} {s : State} {m : MethodId} {args : Array Value} {below : List Frame} {meth : Method} {c : Code} {D : va_G} {A : Nat → Prop} {ad0 : Nat → Nat} {n0 : Nat} (hC : XC p s m args c c_M_cross 7 y_M_cross.cls XTs XCL XNW XAL D A) (hr : meth.sig.returnType = some .int) (hlk : meth.locks = false) (hnm : meth.name = y_M_cross.name) {k34 : Nat → Int32 → Int32 → Int32 → XH → Option (Int32 × XH)} (n : Nat) (rr : Int32) (h' : XH) (hk34 : ∀ (r0 : Nat) (x1 : Int32) (x2 : Int32) (x3 : Int32) (h1 : XH), k34 r0 x1 x2 x3 h1 = some (rr, h') → XW p l e ({ frames := 1, cells := 0, slots := 0, locals := 25 } : Room) s m args below meth c 7 XCL D A ad0 n0 0 0 (MQ below (xQc D XCL n0 ad0 A (some (.int rr)) n h') args s 0 0 A) n h1 34 [(0, .ref r0), (1, .int x1), (2, .int x2), (3, .int x3)] []) (r0 : Nat) (x1 : Int32) (x3 : Int32) (s0 : Int32) (h : XH)  (hE : D_M_cross_154 k34 r0 x1 x3 s0 h = some (rr, h')) : XW p l e ({ frames := 1, cells := 0, slots := 0, locals := 25 } : Room) s m args below meth c 7 XCL D A ad0 n0 0 0 (MQ below (xQc D XCL n0 ad0 A (some (.int rr)) n h') args s 0 0 A) n h 154 [(0, .ref r0), (1, .int x1), (3, .int x3)] [.int s0] := by
  unfold D_M_cross_154 at hE
  refine xi_iconst (v := (0 : Int32)) hC d_M_cross_154 (by decide) ?_
  refine xi_locs (lv' := [(0, .ref r0), (1, .int x1), (3, .int x3)]) [0, 1, 2] rfl ?_
  exact s_M_cross_155 hC hr hlk hnm _ _ _ hk34 _ _ _ _ _ _ hE
set_option maxRecDepth 100000 in
set_option maxHeartbeats 4000000 in
theorem s_M_cross_131 {p : Program} {l : Launch} {e : Env} {s : State} {m : MethodId} {args : Array Value} {below : List Frame} {meth : Method} {c : Code} {D : va_G} {A : Nat → Prop} {ad0 : Nat → Nat} {n0 : Nat} (hC : XC p s m args c c_M_cross 7 y_M_cross.cls XTs XCL XNW XAL D A) (hr : meth.sig.returnType = some .int) (hlk : meth.locks = false) (hnm : meth.name = y_M_cross.name) {k34 : Nat → Int32 → Int32 → Int32 → XH → Option (Int32 × XH)} {k48 : Nat → Int32 → Int32 → Int32 → Int32 → Int32 → Int32 → XH → Option (Int32 × XH)} (n : Nat) (rr : Int32) (h' : XH) (hk34 : ∀ (r0 : Nat) (x1 : Int32) (x2 : Int32) (x3 : Int32) (h1 : XH), k34 r0 x1 x2 x3 h1 = some (rr, h') → XW p l e ({ frames := 1, cells := 0, slots := 0, locals := 25 } : Room) s m args below meth c 7 XCL D A ad0 n0 0 0 (MQ below (xQc D XCL n0 ad0 A (some (.int rr)) n h') args s 0 0 A) n h1 34 [(0, .ref r0), (1, .int x1), (2, .int x2), (3, .int x3)] []) (hk48 : ∀ (r0 : Nat) (x1 : Int32) (x2 : Int32) (x3 : Int32) (x4 : Int32) (x5 : Int32) (x6 : Int32) (h1 : XH), k48 r0 x1 x2 x3 x4 x5 x6 h1 = some (rr, h') → XW p l e ({ frames := 1, cells := 0, slots := 0, locals := 25 } : Room) s m args below meth c 7 XCL D A ad0 n0 0 0 (MQ below (xQc D XCL n0 ad0 A (some (.int rr)) n h') args s 0 0 A) n h1 48 [(0, .ref r0), (1, .int x1), (2, .int x2), (3, .int x3), (4, .int x4), (5, .int x5), (6, .int x6)] []) (r0 : Nat) (x1 : Int32) (x2 : Int32) (x3 : Int32) (x4 : Int32) (x6 : Int32) (s0 : Int32) (h : XH)  (hE : D_M_cross_131 k34 k48 r0 x1 x2 x3 x4 x6 s0 h = some (rr, h')) : XW p l e ({ frames := 1, cells := 0, slots := 0, locals := 25 } : Room) s m args below meth c 7 XCL D A ad0 n0 0 0 (MQ below (xQc D XCL n0 ad0 A (some (.int rr)) n h') args s 0 0 A) n h 131 [(0, .ref r0), (1, .int x1), (2, .int x2), (3, .int x3), (4, .int x4), (6, .int x6)] [.int s0] := by
  unfold D_M_cross_131 at hE
  refine xi_istore (lv' := [(5, .int s0), (0, .ref r0), (1, .int x1), (2, .int x2), (3, .int x3), (4, .int x4), (6, .int x6)]) hC d_M_cross_131 (by decide) rfl ?_
  refine xi_iinc (v := x6 + 1) (lv' := [(6, .int (x6 + 1)), (5, .int s0), (0, .ref r0), (1, .int x1), (2, .int x2), (3, .int x3), (4, .int x4)]) hC d_M_cross_133 6 rfl rfl (by decide) rfl ?_
  refine xi_goto (tgt := 48) hC d_M_cross_136 (by decide) ?_
  refine xi_locs (lv' := [(0, .ref r0), (1, .int x1), (2, .int x2), (3, .int x3), (4, .int x4), (5, .int s0), (6, .int (x6 + 1))]) [2, 3, 4, 5, 6, 1, 0] rfl ?_
  exact hk48 _ _ _ _ _ _ _ _ hE
set_option maxRecDepth 100000 in
set_option maxHeartbeats 4000000 in
theorem s_M_cross_130 {p : Program} {l : Launch} {e : Env} {s : State} {m : MethodId} {args : Array Value} {below : List Frame} {meth : Method} {c : Code} {D : va_G} {A : Nat → Prop} {ad0 : Nat → Nat} {n0 : Nat} (hC : XC p s m args c c_M_cross 7 y_M_cross.cls XTs XCL XNW XAL D A) (hr : meth.sig.returnType = some .int) (hlk : meth.locks = false) (hnm : meth.name = y_M_cross.name) {k34 : Nat → Int32 → Int32 → Int32 → XH → Option (Int32 × XH)} {k48 : Nat → Int32 → Int32 → Int32 → Int32 → Int32 → Int32 → XH → Option (Int32 × XH)} (n : Nat) (rr : Int32) (h' : XH) (hk34 : ∀ (r0 : Nat) (x1 : Int32) (x2 : Int32) (x3 : Int32) (h1 : XH), k34 r0 x1 x2 x3 h1 = some (rr, h') → XW p l e ({ frames := 1, cells := 0, slots := 0, locals := 25 } : Room) s m args below meth c 7 XCL D A ad0 n0 0 0 (MQ below (xQc D XCL n0 ad0 A (some (.int rr)) n h') args s 0 0 A) n h1 34 [(0, .ref r0), (1, .int x1), (2, .int x2), (3, .int x3)] []) (hk48 : ∀ (r0 : Nat) (x1 : Int32) (x2 : Int32) (x3 : Int32) (x4 : Int32) (x5 : Int32) (x6 : Int32) (h1 : XH), k48 r0 x1 x2 x3 x4 x5 x6 h1 = some (rr, h') → XW p l e ({ frames := 1, cells := 0, slots := 0, locals := 25 } : Room) s m args below meth c 7 XCL D A ad0 n0 0 0 (MQ below (xQc D XCL n0 ad0 A (some (.int rr)) n h') args s 0 0 A) n h1 48 [(0, .ref r0), (1, .int x1), (2, .int x2), (3, .int x3), (4, .int x4), (5, .int x5), (6, .int x6)] []) (r0 : Nat) (x1 : Int32) (x2 : Int32) (x3 : Int32) (x4 : Int32) (x6 : Int32) (h : XH)  (hE : D_M_cross_130 k34 k48 r0 x1 x2 x3 x4 x6 h = some (rr, h')) : XW p l e ({ frames := 1, cells := 0, slots := 0, locals := 25 } : Room) s m args below meth c 7 XCL D A ad0 n0 0 0 (MQ below (xQc D XCL n0 ad0 A (some (.int rr)) n h') args s 0 0 A) n h 130 [(0, .ref r0), (1, .int x1), (2, .int x2), (3, .int x3), (4, .int x4), (6, .int x6)] [] := by
  unfold D_M_cross_130 at hE
  refine xi_iconst (v := (0 : Int32)) hC d_M_cross_130 (by decide) ?_
  refine xi_locs (lv' := [(0, .ref r0), (1, .int x1), (2, .int x2), (3, .int x3), (4, .int x4), (6, .int x6)]) [0, 1, 2, 3, 4, 5] rfl ?_
  exact s_M_cross_131 hC hr hlk hnm _ _ _ hk34 hk48 _ _ _ _ _ _ _ _ hE
set_option maxRecDepth 100000 in
set_option maxHeartbeats 4000000 in
theorem s_M_cross_126 {p : Program} {l : Launch} {e : Env} {s : State} {m : MethodId} {args : Array Value} {below : List Frame} {meth : Method} {c : Code} {D : va_G} {A : Nat → Prop} {ad0 : Nat → Nat} {n0 : Nat} (hC : XC p s m args c c_M_cross 7 y_M_cross.cls XTs XCL XNW XAL D A) (hr : meth.sig.returnType = some .int) (hlk : meth.locks = false) (hnm : meth.name = y_M_cross.name) {k34 : Nat → Int32 → Int32 → Int32 → XH → Option (Int32 × XH)} {k48 : Nat → Int32 → Int32 → Int32 → Int32 → Int32 → Int32 → XH → Option (Int32 × XH)} (n : Nat) (rr : Int32) (h' : XH) (hk34 : ∀ (r0 : Nat) (x1 : Int32) (x2 : Int32) (x3 : Int32) (h1 : XH), k34 r0 x1 x2 x3 h1 = some (rr, h') → XW p l e ({ frames := 1, cells := 0, slots := 0, locals := 25 } : Room) s m args below meth c 7 XCL D A ad0 n0 0 0 (MQ below (xQc D XCL n0 ad0 A (some (.int rr)) n h') args s 0 0 A) n h1 34 [(0, .ref r0), (1, .int x1), (2, .int x2), (3, .int x3)] []) (hk48 : ∀ (r0 : Nat) (x1 : Int32) (x2 : Int32) (x3 : Int32) (x4 : Int32) (x5 : Int32) (x6 : Int32) (h1 : XH), k48 r0 x1 x2 x3 x4 x5 x6 h1 = some (rr, h') → XW p l e ({ frames := 1, cells := 0, slots := 0, locals := 25 } : Room) s m args below meth c 7 XCL D A ad0 n0 0 0 (MQ below (xQc D XCL n0 ad0 A (some (.int rr)) n h') args s 0 0 A) n h1 48 [(0, .ref r0), (1, .int x1), (2, .int x2), (3, .int x3), (4, .int x4), (5, .int x5), (6, .int x6)] []) (r0 : Nat) (x1 : Int32) (x2 : Int32) (x3 : Int32) (x4 : Int32) (x6 : Int32) (h : XH)  (hE : D_M_cross_126 k34 k48 r0 x1 x2 x3 x4 x6 h = some (rr, h')) : XW p l e ({ frames := 1, cells := 0, slots := 0, locals := 25 } : Room) s m args below meth c 7 XCL D A ad0 n0 0 0 (MQ below (xQc D XCL n0 ad0 A (some (.int rr)) n h') args s 0 0 A) n h 126 [(0, .ref r0), (1, .int x1), (2, .int x2), (3, .int x3), (4, .int x4), (6, .int x6)] [] := by
  unfold D_M_cross_126 at hE
  refine xi_iconst (v := (1 : Int32)) hC d_M_cross_126 (by decide) ?_
  refine xi_goto (tgt := 131) hC d_M_cross_127 (by decide) ?_
  refine xi_locs (lv' := [(0, .ref r0), (1, .int x1), (2, .int x2), (3, .int x3), (4, .int x4), (6, .int x6)]) [0, 1, 2, 3, 4, 5] rfl ?_
  exact s_M_cross_131 hC hr hlk hnm _ _ _ hk34 hk48 _ _ _ _ _ _ _ _ hE
set_option maxRecDepth 100000 in
set_option maxHeartbeats 4000000 in
theorem s_M_cross_93 {p : Program} {l : Launch} {e : Env} {s : State} {m : MethodId} {args : Array Value} {below : List Frame} {meth : Method} {c : Code} {D : va_G} {A : Nat → Prop} {ad0 : Nat → Nat} {n0 : Nat} (hC : XC p s m args c c_M_cross 7 y_M_cross.cls XTs XCL XNW XAL D A) (hr : meth.sig.returnType = some .int) (hlk : meth.locks = false) (hnm : meth.name = y_M_cross.name) {k34 : Nat → Int32 → Int32 → Int32 → XH → Option (Int32 × XH)} {k48 : Nat → Int32 → Int32 → Int32 → Int32 → Int32 → Int32 → XH → Option (Int32 × XH)} (n : Nat) (rr : Int32) (h' : XH) (hk34 : ∀ (r0 : Nat) (x1 : Int32) (x2 : Int32) (x3 : Int32) (h1 : XH), k34 r0 x1 x2 x3 h1 = some (rr, h') → XW p l e ({ frames := 1, cells := 0, slots := 0, locals := 25 } : Room) s m args below meth c 7 XCL D A ad0 n0 0 0 (MQ below (xQc D XCL n0 ad0 A (some (.int rr)) n h') args s 0 0 A) n h1 34 [(0, .ref r0), (1, .int x1), (2, .int x2), (3, .int x3)] []) (hk48 : ∀ (r0 : Nat) (x1 : Int32) (x2 : Int32) (x3 : Int32) (x4 : Int32) (x5 : Int32) (x6 : Int32) (h1 : XH), k48 r0 x1 x2 x3 x4 x5 x6 h1 = some (rr, h') → XW p l e ({ frames := 1, cells := 0, slots := 0, locals := 25 } : Room) s m args below meth c 7 XCL D A ad0 n0 0 0 (MQ below (xQc D XCL n0 ad0 A (some (.int rr)) n h') args s 0 0 A) n h1 48 [(0, .ref r0), (1, .int x1), (2, .int x2), (3, .int x3), (4, .int x4), (5, .int x5), (6, .int x6)] []) (r0 : Nat) (x1 : Int32) (x2 : Int32) (x3 : Int32) (x5 : Int32) (x6 : Int32) (s0 : Int32) (h : XH)  (hE : D_M_cross_93 k34 k48 r0 x1 x2 x3 x5 x6 s0 h = some (rr, h')) : XW p l e ({ frames := 1, cells := 0, slots := 0, locals := 25 } : Room) s m args below meth c 7 XCL D A ad0 n0 0 0 (MQ below (xQc D XCL n0 ad0 A (some (.int rr)) n h') args s 0 0 A) n h 93 [(0, .ref r0), (1, .int x1), (2, .int x2), (3, .int x3), (5, .int x5), (6, .int x6)] [.int s0] := by
  unfold D_M_cross_93 at hE
  refine xi_istore (lv' := [(4, .int s0), (0, .ref r0), (1, .int x1), (2, .int x2), (3, .int x3), (5, .int x5), (6, .int x6)]) hC d_M_cross_93 (by decide) rfl ?_
  refine xi_iload hC d_M_cross_95 5 rfl ?_
  refine xi_if_ne (tgt := 126) hC d_M_cross_97 (by decide) (fun hz1 => ?_) (fun hz1 => ?_)
  · rw [if_neg hz1] at hE
    refine xi_locs (lv' := [(0, .ref r0), (1, .int x1), (2, .int x2), (3, .int x3), (4, .int s0), (6, .int x6)]) [1, 2, 3, 4, 0, 6] rfl ?_
    exact s_M_cross_126 hC hr hlk hnm _ _ _ hk34 hk48 _ _ _ _ _ _ _ hE
  · rw [if_pos hz1] at hE
    refine xi_aload_n hC d_M_cross_100 rfl 1 rfl ?_
    obtain ⟨q3, hE2, hE⟩ := xb1_inv hE
    refine xi_get (C := R_M) (T := T_M) (N := 19) (ci := 4) (k := 3) hC rfl iws_M (by decide) xt_201 (by decide) (xgR_inv hE2) d_M_cross_101 ?_
    refine xi_iload hC d_M_cross_104 6 rfl ?_
    obtain ⟨v4, hE5, hE⟩ := xb1_inv hE
    refine xi_iald hC hE5 d_M_cross_106 ?_
    refine xi_iload_n hC d_M_cross_107 rfl 4 rfl ?_
    refine xi_icmp_eq (tgt := 130) hC d_M_cross_108 (by decide) (fun hz6 => ?_) (fun hz6 => ?_)
    · rw [if_pos hz6] at hE
      refine xi_locs (lv' := [(0, .ref r0), (1, .int x1), (2, .int x2), (3, .int x3), (4, .int s0), (6, .int x6)]) [1, 2, 3, 4, 0, 6] rfl ?_
      exact s_M_cross_130 hC hr hlk hnm _ _ _ hk34 hk48 _ _ _ _ _ _ _ hE
    · rw [if_neg hz6] at hE
      refine xi_aload_n hC d_M_cross_111 rfl 1 rfl ?_
      obtain ⟨q8, hE7, hE⟩ := xb1_inv hE
      refine xi_get (C := R_M) (T := T_M) (N := 19) (ci := 4) (k := 7) hC rfl iws_M (by decide) xt_205 (by decide) (xgR_inv hE7) d_M_cross_112 ?_
      refine xi_iload_n hC d_M_cross_115 rfl 2 rfl ?_
      obtain ⟨v9, hE10, hE⟩ := xb1_inv hE
      refine xi_iald hC hE10 d_M_cross_116 ?_
      refine xi_iload hC d_M_cross_117 6 rfl ?_
      refine xi_ishr hC d_M_cross_119 ?_
      refine xi_iconst (v := (1 : Int32)) hC d_M_cross_120 (by decide) ?_
      refine xi_iand hC d_M_cross_121 ?_
      refine xi_iconst (v := (1 : Int32)) hC d_M_cross_122 (by decide) ?_
      refine xi_icmp_ne (tgt := 130) hC d_M_cross_123 (by decide) (fun hz11 => ?_) (fun hz11 => ?_)
      · rw [if_neg hz11] at hE
        refine xi_locs (lv' := [(0, .ref r0), (1, .int x1), (2, .int x2), (3, .int x3), (4, .int s0), (6, .int x6)]) [1, 2, 3, 4, 0, 6] rfl ?_
        exact s_M_cross_130 hC hr hlk hnm _ _ _ hk34 hk48 _ _ _ _ _ _ _ hE
      · rw [if_pos hz11] at hE
        refine xi_locs (lv' := [(0, .ref r0), (1, .int x1), (2, .int x2), (3, .int x3), (4, .int s0), (6, .int x6)]) [1, 2, 3, 4, 0, 6] rfl ?_
        exact s_M_cross_126 hC hr hlk hnm _ _ _ hk34 hk48 _ _ _ _ _ _ _ hE
set_option maxRecDepth 100000 in
set_option maxHeartbeats 4000000 in
theorem s_M_cross_92 {p : Program} {l : Launch} {e : Env} {s : State} {m : MethodId} {args : Array Value} {below : List Frame} {meth : Method} {c : Code} {D : va_G} {A : Nat → Prop} {ad0 : Nat → Nat} {n0 : Nat} (hC : XC p s m args c c_M_cross 7 y_M_cross.cls XTs XCL XNW XAL D A) (hr : meth.sig.returnType = some .int) (hlk : meth.locks = false) (hnm : meth.name = y_M_cross.name) {k34 : Nat → Int32 → Int32 → Int32 → XH → Option (Int32 × XH)} {k48 : Nat → Int32 → Int32 → Int32 → Int32 → Int32 → Int32 → XH → Option (Int32 × XH)} (n : Nat) (rr : Int32) (h' : XH) (hk34 : ∀ (r0 : Nat) (x1 : Int32) (x2 : Int32) (x3 : Int32) (h1 : XH), k34 r0 x1 x2 x3 h1 = some (rr, h') → XW p l e ({ frames := 1, cells := 0, slots := 0, locals := 25 } : Room) s m args below meth c 7 XCL D A ad0 n0 0 0 (MQ below (xQc D XCL n0 ad0 A (some (.int rr)) n h') args s 0 0 A) n h1 34 [(0, .ref r0), (1, .int x1), (2, .int x2), (3, .int x3)] []) (hk48 : ∀ (r0 : Nat) (x1 : Int32) (x2 : Int32) (x3 : Int32) (x4 : Int32) (x5 : Int32) (x6 : Int32) (h1 : XH), k48 r0 x1 x2 x3 x4 x5 x6 h1 = some (rr, h') → XW p l e ({ frames := 1, cells := 0, slots := 0, locals := 25 } : Room) s m args below meth c 7 XCL D A ad0 n0 0 0 (MQ below (xQc D XCL n0 ad0 A (some (.int rr)) n h') args s 0 0 A) n h1 48 [(0, .ref r0), (1, .int x1), (2, .int x2), (3, .int x3), (4, .int x4), (5, .int x5), (6, .int x6)] []) (r0 : Nat) (x1 : Int32) (x2 : Int32) (x3 : Int32) (x5 : Int32) (x6 : Int32) (h : XH)  (hE : D_M_cross_92 k34 k48 r0 x1 x2 x3 x5 x6 h = some (rr, h')) : XW p l e ({ frames := 1, cells := 0, slots := 0, locals := 25 } : Room) s m args below meth c 7 XCL D A ad0 n0 0 0 (MQ below (xQc D XCL n0 ad0 A (some (.int rr)) n h') args s 0 0 A) n h 92 [(0, .ref r0), (1, .int x1), (2, .int x2), (3, .int x3), (5, .int x5), (6, .int x6)] [] := by
  unfold D_M_cross_92 at hE
  refine xi_iconst (v := (0 : Int32)) hC d_M_cross_92 (by decide) ?_
  refine xi_locs (lv' := [(0, .ref r0), (1, .int x1), (2, .int x2), (3, .int x3), (5, .int x5), (6, .int x6)]) [0, 1, 2, 3, 4, 5] rfl ?_
  exact s_M_cross_93 hC hr hlk hnm _ _ _ hk34 hk48 _ _ _ _ _ _ _ _ hE
set_option maxRecDepth 100000 in
set_option maxHeartbeats 4000000 in
theorem s_M_cross_88 {p : Program} {l : Launch} {e : Env} {s : State} {m : MethodId} {args : Array Value} {below : List Frame} {meth : Method} {c : Code} {D : va_G} {A : Nat → Prop} {ad0 : Nat → Nat} {n0 : Nat} (hC : XC p s m args c c_M_cross 7 y_M_cross.cls XTs XCL XNW XAL D A) (hr : meth.sig.returnType = some .int) (hlk : meth.locks = false) (hnm : meth.name = y_M_cross.name) {k34 : Nat → Int32 → Int32 → Int32 → XH → Option (Int32 × XH)} {k48 : Nat → Int32 → Int32 → Int32 → Int32 → Int32 → Int32 → XH → Option (Int32 × XH)} (n : Nat) (rr : Int32) (h' : XH) (hk34 : ∀ (r0 : Nat) (x1 : Int32) (x2 : Int32) (x3 : Int32) (h1 : XH), k34 r0 x1 x2 x3 h1 = some (rr, h') → XW p l e ({ frames := 1, cells := 0, slots := 0, locals := 25 } : Room) s m args below meth c 7 XCL D A ad0 n0 0 0 (MQ below (xQc D XCL n0 ad0 A (some (.int rr)) n h') args s 0 0 A) n h1 34 [(0, .ref r0), (1, .int x1), (2, .int x2), (3, .int x3)] []) (hk48 : ∀ (r0 : Nat) (x1 : Int32) (x2 : Int32) (x3 : Int32) (x4 : Int32) (x5 : Int32) (x6 : Int32) (h1 : XH), k48 r0 x1 x2 x3 x4 x5 x6 h1 = some (rr, h') → XW p l e ({ frames := 1, cells := 0, slots := 0, locals := 25 } : Room) s m args below meth c 7 XCL D A ad0 n0 0 0 (MQ below (xQc D XCL n0 ad0 A (some (.int rr)) n h') args s 0 0 A) n h1 48 [(0, .ref r0), (1, .int x1), (2, .int x2), (3, .int x3), (4, .int x4), (5, .int x5), (6, .int x6)] []) (r0 : Nat) (x1 : Int32) (x2 : Int32) (x3 : Int32) (x5 : Int32) (x6 : Int32) (h : XH)  (hE : D_M_cross_88 k34 k48 r0 x1 x2 x3 x5 x6 h = some (rr, h')) : XW p l e ({ frames := 1, cells := 0, slots := 0, locals := 25 } : Room) s m args below meth c 7 XCL D A ad0 n0 0 0 (MQ below (xQc D XCL n0 ad0 A (some (.int rr)) n h') args s 0 0 A) n h 88 [(0, .ref r0), (1, .int x1), (2, .int x2), (3, .int x3), (5, .int x5), (6, .int x6)] [] := by
  unfold D_M_cross_88 at hE
  refine xi_iconst (v := (1 : Int32)) hC d_M_cross_88 (by decide) ?_
  refine xi_goto (tgt := 93) hC d_M_cross_89 (by decide) ?_
  refine xi_locs (lv' := [(0, .ref r0), (1, .int x1), (2, .int x2), (3, .int x3), (5, .int x5), (6, .int x6)]) [0, 1, 2, 3, 4, 5] rfl ?_
  exact s_M_cross_93 hC hr hlk hnm _ _ _ hk34 hk48 _ _ _ _ _ _ _ _ hE
set_option maxRecDepth 100000 in
set_option maxHeartbeats 4000000 in
theorem s_M_cross_48 {p : Program} {l : Launch} {e : Env} {s : State} {m : MethodId} {args : Array Value} {below : List Frame} {meth : Method} {c : Code} {D : va_G} {A : Nat → Prop} {ad0 : Nat → Nat} {n0 : Nat} (hC : XC p s m args c c_M_cross 7 y_M_cross.cls XTs XCL XNW XAL D A) (hr : meth.sig.returnType = some .int) (hlk : meth.locks = false) (hnm : meth.name = y_M_cross.name) {k34 : Nat → Int32 → Int32 → Int32 → XH → Option (Int32 × XH)} (n : Nat) (rr : Int32) (h' : XH) (hk34 : ∀ (r0 : Nat) (x1 : Int32) (x2 : Int32) (x3 : Int32) (h1 : XH), k34 r0 x1 x2 x3 h1 = some (rr, h') → XW p l e ({ frames := 1, cells := 0, slots := 0, locals := 25 } : Room) s m args below meth c 7 XCL D A ad0 n0 0 0 (MQ below (xQc D XCL n0 ad0 A (some (.int rr)) n h') args s 0 0 A) n h1 34 [(0, .ref r0), (1, .int x1), (2, .int x2), (3, .int x3)] []) : ∀ (f : Nat) (r0 : Nat) (x1 : Int32) (x2 : Int32) (x3 : Int32) (x4 : Int32) (x5 : Int32) (x6 : Int32) (h : XH) , D_M_cross_48 k34 f r0 x1 x2 x3 x4 x5 x6 h = some (rr, h') → XW p l e ({ frames := 1, cells := 0, slots := 0, locals := 25 } : Room) s m args below meth c 7 XCL D A ad0 n0 0 0 (MQ below (xQc D XCL n0 ad0 A (some (.int rr)) n h') args s 0 0 A) n h 48 [(0, .ref r0), (1, .int x1), (2, .int x2), (3, .int x3), (4, .int x4), (5, .int x5), (6, .int x6)] [] := by
  intro f
  induction f with
  | zero =>
    intro r0 x1 x2 x3 x4 x5 x6 h hE
    exact absurd hE (by simp [D_M_cross_48])
  | succ fu ih =>
    intro r0 x1 x2 x3 x4 x5 x6 h hE
    simp only [D_M_cross_48] at hE
    refine xi_iload hC d_M_cross_48 6 rfl ?_
    refine xi_aload_n hC d_M_cross_50 rfl 0 rfl ?_
    obtain ⟨v2, hE1, hE⟩ := xb1_inv hE
    refine xi_get (C := R_M) (T := T_M) (N := 19) (ci := 4) (k := 1) hC rfl iws_M (by decide) xt_214 (by decide) (xgI_inv hE1) d_M_cross_51 ?_
    refine xi_icmp_gt (tgt := 139) hC d_M_cross_54 (by decide) (fun hz3 => ?_) (fun hz3 => ?_)
    · rw [if_pos hz3] at hE
      refine xi_iload_n hC d_M_cross_139 rfl 2 rfl ?_
      refine xi_iload hC d_M_cross_140 4 rfl ?_
      refine xi_if_eq (tgt := 154) hC d_M_cross_142 (by decide) (fun hz4 => ?_) (fun hz4 => ?_)
      · rw [if_pos hz4] at hE
        refine xi_locs (lv' := [(0, .ref r0), (1, .int x1), (3, .int x3)]) [0, 1, 3] rfl ?_
        exact s_M_cross_154 hC hr hlk hnm _ _ _ hk34 _ _ _ _ _ hE
      · rw [if_neg hz4] at hE
        refine xi_iload hC d_M_cross_145 5 rfl ?_
        refine xi_if_eq (tgt := 154) hC d_M_cross_147 (by decide) (fun hz5 => ?_) (fun hz5 => ?_)
        · rw [if_pos hz5] at hE
          refine xi_locs (lv' := [(0, .ref r0), (1, .int x1), (3, .int x3)]) [0, 1, 3] rfl ?_
          exact s_M_cross_154 hC hr hlk hnm _ _ _ hk34 _ _ _ _ _ hE
        · rw [if_neg hz5] at hE
          refine xi_iconst (v := (1 : Int32)) hC d_M_cross_150 (by decide) ?_
          refine xi_goto (tgt := 155) hC d_M_cross_151 (by decide) ?_
          refine xi_locs (lv' := [(0, .ref r0), (1, .int x1), (3, .int x3)]) [0, 1, 3] rfl ?_
          exact s_M_cross_155 hC hr hlk hnm _ _ _ hk34 _ _ _ _ _ _ hE
    · rw [if_neg hz3] at hE
      refine xi_iload hC d_M_cross_57 4 rfl ?_
      refine xi_if_ne (tgt := 88) hC d_M_cross_59 (by decide) (fun hz6 => ?_) (fun hz6 => ?_)
      · rw [if_neg hz6] at hE
        refine xi_locs (lv' := [(0, .ref r0), (1, .int x1), (2, .int x2), (3, .int x3), (5, .int x5), (6, .int x6)]) [0, 1, 2, 3, 5, 6] rfl ?_
        exact s_M_cross_88 hC hr hlk hnm _ _ _ hk34 (fun y0 y1 y2 y3 y4 y5 y6 h1 z => ih y0 y1 y2 y3 y4 y5 y6 h1 z) _ _ _ _ _ _ _ hE
      · rw [if_pos hz6] at hE
        refine xi_aload_n hC d_M_cross_62 rfl 0 rfl ?_
        obtain ⟨q8, hE7, hE⟩ := xb1_inv hE
        refine xi_get (C := R_M) (T := T_M) (N := 19) (ci := 4) (k := 3) hC rfl iws_M (by decide) xt_201 (by decide) (xgR_inv hE7) d_M_cross_63 ?_
        refine xi_iload hC d_M_cross_66 6 rfl ?_
        obtain ⟨v9, hE10, hE⟩ := xb1_inv hE
        refine xi_iald hC hE10 d_M_cross_68 ?_
        refine xi_iload_n hC d_M_cross_69 rfl 3 rfl ?_
        refine xi_icmp_ne (tgt := 92) hC d_M_cross_70 (by decide) (fun hz11 => ?_) (fun hz11 => ?_)
        · rw [if_neg hz11] at hE
          refine xi_locs (lv' := [(0, .ref r0), (1, .int x1), (2, .int x2), (3, .int x3), (5, .int x5), (6, .int x6)]) [0, 1, 2, 3, 5, 6] rfl ?_
          exact s_M_cross_92 hC hr hlk hnm _ _ _ hk34 (fun y0 y1 y2 y3 y4 y5 y6 h1 z => ih y0 y1 y2 y3 y4 y5 y6 h1 z) _ _ _ _ _ _ _ hE
        · rw [if_pos hz11] at hE
          refine xi_aload_n hC d_M_cross_73 rfl 0 rfl ?_
          obtain ⟨q13, hE12, hE⟩ := xb1_inv hE
          refine xi_get (C := R_M) (T := T_M) (N := 19) (ci := 4) (k := 6) hC rfl iws_M (by decide) xt_204 (by decide) (xgR_inv hE12) d_M_cross_74 ?_
          refine xi_iload_n hC d_M_cross_77 rfl 1 rfl ?_
          obtain ⟨v14, hE15, hE⟩ := xb1_inv hE
          refine xi_iald hC hE15 d_M_cross_78 ?_
          refine xi_iload hC d_M_cross_79 6 rfl ?_
          refine xi_ishr hC d_M_cross_81 ?_
          refine xi_iconst (v := (1 : Int32)) hC d_M_cross_82 (by decide) ?_
          refine xi_iand hC d_M_cross_83 ?_
          refine xi_iconst (v := (1 : Int32)) hC d_M_cross_84 (by decide) ?_
          refine xi_icmp_ne (tgt := 92) hC d_M_cross_85 (by decide) (fun hz16 => ?_) (fun hz16 => ?_)
          · rw [if_neg hz16] at hE
            refine xi_locs (lv' := [(0, .ref r0), (1, .int x1), (2, .int x2), (3, .int x3), (5, .int x5), (6, .int x6)]) [0, 1, 2, 3, 5, 6] rfl ?_
            exact s_M_cross_92 hC hr hlk hnm _ _ _ hk34 (fun y0 y1 y2 y3 y4 y5 y6 h1 z => ih y0 y1 y2 y3 y4 y5 y6 h1 z) _ _ _ _ _ _ _ hE
          · rw [if_pos hz16] at hE
            refine xi_locs (lv' := [(0, .ref r0), (1, .int x1), (2, .int x2), (3, .int x3), (5, .int x5), (6, .int x6)]) [0, 1, 2, 3, 5, 6] rfl ?_
            exact s_M_cross_88 hC hr hlk hnm _ _ _ hk34 (fun y0 y1 y2 y3 y4 y5 y6 h1 z => ih y0 y1 y2 y3 y4 y5 y6 h1 z) _ _ _ _ _ _ _ hE
set_option maxRecDepth 100000 in
set_option maxHeartbeats 4000000 in
theorem s_M_cross_34 {p : Program} {l : Launch} {e : Env} {s : State} {m : MethodId} {args : Array Value} {below : List Frame} {meth : Method} {c : Code} {D : va_G} {A : Nat → Prop} {ad0 : Nat → Nat} {n0 : Nat} (hC : XC p s m args c c_M_cross 7 y_M_cross.cls XTs XCL XNW XAL D A) (hr : meth.sig.returnType = some .int) (hlk : meth.locks = false) (hnm : meth.name = y_M_cross.name)   : ∀ (f : Nat) (r0 : Nat) (x1 : Int32) (x2 : Int32) (x3 : Int32) (n : Nat) (h : XH) (rr : Int32) (h' : XH), D_M_cross_34  f r0 x1 x2 x3 h = some (rr, h') → XW p l e ({ frames := 1, cells := 0, slots := 0, locals := 25 } : Room) s m args below meth c 7 XCL D A ad0 n0 0 0 (MQ below (xQc D XCL n0 ad0 A (some (.int rr)) n h') args s 0 0 A) n h 34 [(0, .ref r0), (1, .int x1), (2, .int x2), (3, .int x3)] [] := by
  intro f
  induction f with
  | zero =>
    intro r0 x1 x2 x3 n h rr h' hE
    exact absurd hE (by simp [D_M_cross_34])
  | succ fu ih =>
    intro r0 x1 x2 x3 n h rr h' hE
    simp only [D_M_cross_34] at hE
    refine xi_iload_n hC d_M_cross_34 rfl 3 rfl ?_
    refine xi_iconst (v := (4 : Int32)) hC d_M_cross_35 (by decide) ?_
    refine xi_icmp_gt (tgt := 163) hC d_M_cross_36 (by decide) (fun hz1 => ?_) (fun hz1 => ?_)
    · rw [if_pos hz1] at hE
      refine xi_iload_n hC d_M_cross_163 rfl 2 rfl ?_
      cases hE
      exact xi_iret hC hr hlk d_M_cross_164
    · rw [if_neg hz1] at hE
      refine xi_iconst (v := (0 : Int32)) hC d_M_cross_39 (by decide) ?_
      refine xi_istore (lv' := [(4, .int (0 : Int32)), (0, .ref r0), (1, .int x1), (2, .int x2), (3, .int x3)]) hC d_M_cross_40 (by decide) rfl ?_
      refine xi_iconst (v := (0 : Int32)) hC d_M_cross_42 (by decide) ?_
      refine xi_istore (lv' := [(5, .int (0 : Int32)), (4, .int (0 : Int32)), (0, .ref r0), (1, .int x1), (2, .int x2), (3, .int x3)]) hC d_M_cross_43 (by decide) rfl ?_
      refine xi_iconst (v := (1 : Int32)) hC d_M_cross_45 (by decide) ?_
      refine xi_istore (lv' := [(6, .int (1 : Int32)), (5, .int (0 : Int32)), (4, .int (0 : Int32)), (0, .ref r0), (1, .int x1), (2, .int x2), (3, .int x3)]) hC d_M_cross_46 (by decide) rfl ?_
      refine xi_locs (lv' := [(0, .ref r0), (1, .int x1), (2, .int x2), (3, .int x3), (4, .int (0 : Int32)), (5, .int (0 : Int32)), (6, .int (1 : Int32))]) [3, 4, 5, 6, 2, 1, 0] rfl ?_
      exact s_M_cross_48 hC hr hlk hnm _ _ _ (fun y0 y1 y2 y3 h1 z => ih y0 y1 y2 y3 _ h1 _ _ z) 5000 _ _ _ _ _ _ _ _ hE
set_option maxRecDepth 100000 in
set_option maxHeartbeats 4000000 in
theorem s_M_cross_0 {p : Program} {l : Launch} {e : Env} {s : State} {m : MethodId} {args : Array Value} {below : List Frame} {meth : Method} {c : Code} {D : va_G} {A : Nat → Prop} {ad0 : Nat → Nat} {n0 : Nat} (hC : XC p s m args c c_M_cross 7 y_M_cross.cls XTs XCL XNW XAL D A) (hr : meth.sig.returnType = some .int) (hlk : meth.locks = false) (hnm : meth.name = y_M_cross.name)   (r0 : Nat) (x1 : Int32) (n : Nat) (h : XH) (rr : Int32) (h' : XH) (hE : D_M_cross_0  r0 x1 h = some (rr, h')) : XW p l e ({ frames := 1, cells := 0, slots := 0, locals := 25 } : Room) s m args below meth c 7 XCL D A ad0 n0 0 0 (MQ below (xQc D XCL n0 ad0 A (some (.int rr)) n h') args s 0 0 A) n h 0 [(0, .ref r0), (1, .int x1)] [] := by
  unfold D_M_cross_0 at hE
  refine xi_aload_n hC d_M_cross_0 rfl 0 rfl ?_
  refine xi_iconst (v := (0 : Int32)) hC d_M_cross_1 (by decide) ?_
  obtain ⟨h1, hE2, hE⟩ := xb1_inv hE
  refine xi_put (C := R_M) (T := T_M) (N := 19) (ci := 4) (k := 0) hC ty_M rfl iws_M tok_M nok_M (by decide) xt_219 (by decide) rfl (fun _ => rfl) (fun _ => rfl) hE2 d_M_cross_2 ?_
  refine xi_iload_n hC d_M_cross_5 rfl 1 rfl ?_
  refine xi_i2l hC d_M_cross_6 ?_
  refine xi_lconst (v := (1 : Int64)) hC d_M_cross_7 (by decide) ?_
  refine xi_ldc2 (v := (20 : Int64)) hC d_M_cross_8 xt_237 ?_
  obtain ⟨v3, hE4, hE⟩ := xb1_inv hE
  refine xi_callS (as := [.long (x1.toInt64), .long (1 : Int64), .long (20 : Int64)]) (st := []) hC (x_M_isIn hE4) xt_216 xt_217 xt_218 xt_215 ⟨by decide, by decide, (by decide +kernel : (parseMethodDescriptor y_M_isIn.desc).map (fun d => d.parameters.length) = some 3)⟩ rfl rfl ⟨by decide, by decide⟩ ⟨by decide, by decide⟩ (Nat.le_of_ble_eq_true rfl) rfl d_M_cross_11 ?_
  refine xi_stk (st' := [.int v3]) rfl ?_
  refine xi_if_ne (tgt := 20) hC d_M_cross_14 (by decide) (fun hz5 => ?_) (fun hz5 => ?_)
  · rw [if_neg hz5] at hE
    refine xi_aload_n hC d_M_cross_20 rfl 0 rfl ?_
    obtain ⟨v7, hE6, hE⟩ := xb1_inv hE
    refine xi_get (C := R_M) (T := T_M) (N := 19) (ci := 4) (k := 11) hC rfl iws_M (by decide) xt_223 (by decide) (xgI_inv hE6) d_M_cross_21 ?_
    refine xi_if_ne (tgt := 30) hC d_M_cross_24 (by decide) (fun hz8 => ?_) (fun hz8 => ?_)
    · rw [if_neg hz8] at hE
      refine xi_iconst (v := (0 : Int32)) hC d_M_cross_30 (by decide) ?_
      refine xi_istore_n (lv' := [(2, .int (0 : Int32)), (0, .ref r0), (1, .int x1)]) hC d_M_cross_31 rfl (by decide) rfl ?_
      refine xi_iconst (v := (1 : Int32)) hC d_M_cross_32 (by decide) ?_
      refine xi_istore_n (lv' := [(3, .int (1 : Int32)), (2, .int (0 : Int32)), (0, .ref r0), (1, .int x1)]) hC d_M_cross_33 rfl (by decide) rfl ?_
      refine xi_locs (lv' := [(0, .ref r0), (1, .int x1), (2, .int (0 : Int32)), (3, .int (1 : Int32))]) [2, 3, 1, 0] rfl ?_
      exact s_M_cross_34 hC hr hlk hnm 5000 _ _ _ _ _ _ _ _ hE
    · rw [if_pos hz8] at hE
      refine xi_bipush (v := (-3 : Int32)) hC d_M_cross_27 (by decide) ?_
      cases hE
      exact xi_iret hC hr hlk d_M_cross_29
  · rw [if_pos hz5] at hE
    refine xi_bipush (v := (-2 : Int32)) hC d_M_cross_17 (by decide) ?_
    cases hE
    exact xi_iret hC hr hlk d_M_cross_19
set_option maxRecDepth 100000 in
theorem x_M_cross {l : Launch} {D : va_G} {r0 : Nat} {x1 : Int32} {n : Nat} {h : XH} {rr : Int32} {h' : XH} (hE : X_M_cross r0 x1 h = some (rr, h')) : XMet l y_M_cross c_M_cross 7 (some .int) XTs XCL XNW XAL D ({ frames := 1, cells := 0, slots := 0, locals := 25 } : Room) 0 0 [.ref r0, .int x1] n h (some (.int rr)) n h' := by
  refine XMet.mk (by decide) xNW_good xTs_good (Nat.le_of_ble_eq_true rfl) ?_
  intro p e s m args below meth c A ad0 hC hr hlk hnm
  refine xi_locs (lv' := [(0, .ref r0), (1, .int x1)]) [0, 1] rfl ?_
  exact s_M_cross_0 hC hr hlk hnm _ _ n h _ _ hE


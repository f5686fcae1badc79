set_option maxRecDepth 100000 in
set_option maxHeartbeats 4000000 in
theorem s_P_addPeriodTasks_52 {p : Program} {l : Launch} {e : Env} {s : State} {m : MethodId} {args : Array Value} {below : List Frame} {meth : Method} {c : Code} {D : va_G} {A : Nat → Prop} {ad0 : Nat → Nat} {n0 : Nat} (hC : XC p s m args c c_P_addPeriodTasks 6 y_P_addPeriodTasks.cls XTs XCL XNW XAL D A) (hr : meth.sig.returnType = none) (hlk : meth.locks = false) (hnm : meth.name = y_P_addPeriodTasks.name)    (n : Nat) (h : XH) (h' : XH) (hE : D_P_addPeriodTasks_52   h = some h') : XW p l e ({ frames := 3, cells := 0, slots := 0, locals := 69 } : Room) s m args below meth c 6 XCL D A ad0 n0 0 0 (MQ below (xQc D XCL n0 ad0 A none n h') args s 0 0 A) n h 52 [] [] := by
  unfold D_P_addPeriodTasks_52 at hE
  cases hE
  exact xi_vret hC hr hlk d_P_addPeriodTasks_52
set_option maxRecDepth 100000 in
set_option maxHeartbeats 4000000 in
theorem s_P_addPeriodTasks_11 {p : Program} {l : Launch} {e : Env} {s : State} {m : MethodId} {args : Array Value} {below : List Frame} {meth : Method} {c : Code} {D : va_G} {A : Nat → Prop} {ad0 : Nat → Nat} {n0 : Nat} (hC : XC p s m args c c_P_addPeriodTasks 6 y_P_addPeriodTasks.cls XTs XCL XNW XAL D A) (hr : meth.sig.returnType = none) (hlk : meth.locks = false) (hnm : meth.name = y_P_addPeriodTasks.name)   : ∀ (f : Nat) (r0 : Nat) (x1 : Int32) (r2 : Nat) (r3 : Nat) (x4 : Int32) (x5 : Int32) (n : Nat) (h : XH) (h' : XH), D_P_addPeriodTasks_11  f r0 x1 r2 r3 x4 x5 h = some h' → XW p l e ({ frames := 3, cells := 0, slots := 0, locals := 69 } : Room) s m args below meth c 6 XCL D A ad0 n0 0 0 (MQ below (xQc D XCL n0 ad0 A none n h') args s 0 0 A) n h 11 [(0, .ref r0), (1, .int x1), (2, .ref r2), (3, .ref r3), (4, .int x4), (5, .int x5)] [] := by
  intro f
  induction f with
  | zero =>
    intro r0 x1 r2 r3 x4 x5 n h h' hE
    exact absurd hE (by simp [D_P_addPeriodTasks_11])
  | succ fu ih =>
    intro r0 x1 r2 r3 x4 x5 n h h' hE
    simp only [D_P_addPeriodTasks_11] at hE
    refine xi_iload hC d_P_addPeriodTasks_11 5 rfl ?_
    refine xi_bipush (v := (24 : Int32)) hC d_P_addPeriodTasks_13 (by decide) ?_
    refine xi_icmp_ge (tgt := 52) hC d_P_addPeriodTasks_15 (by decide) (fun hz1 => ?_) (fun hz1 => ?_)
    · rw [if_pos hz1] at hE
      refine xi_locs (lv' := []) [] rfl ?_
      exact s_P_addPeriodTasks_52 hC hr hlk hnm _ _ _ hE
    · rw [if_neg hz1] at hE
      refine xi_iload hC d_P_addPeriodTasks_18 4 rfl ?_
      refine xi_if_le (tgt := 52) hC d_P_addPeriodTasks_20 (by decide) (fun hz2 => ?_) (fun hz2 => ?_)
      · rw [if_pos hz2] at hE
        refine xi_locs (lv' := []) [] rfl ?_
        exact s_P_addPeriodTasks_52 hC hr hlk hnm _ _ _ hE
      · rw [if_neg hz2] at hE
        refine xi_aload_n hC d_P_addPeriodTasks_23 rfl 0 rfl ?_
        refine xi_iload hC d_P_addPeriodTasks_24 4 rfl ?_
        refine xi_aload_n hC d_P_addPeriodTasks_26 rfl 2 rfl ?_
        refine xi_iload_n hC d_P_addPeriodTasks_27 rfl 1 rfl ?_
        refine xi_iload hC d_P_addPeriodTasks_28 4 rfl ?_
        obtain ⟨hI5, hE⟩ := xchk_inv hE
        obtain ⟨v3, hE4, hE⟩ := xb1_inv hE
        refine xi_callV (as := [.int x1, .int x4]) (st := [.int x4, .ref r0]) (C := R_U) (T := T_U) (N := 6) hC (x_U_group hE4) rfl (by decide) hI5 xt_126 xt_127 xt_128 xt_23 xt_125 ⟨by decide, by decide, (by decide +kernel : (parseMethodDescriptor y_U_group.desc).map (fun d => d.parameters.length) = some 2)⟩ rfl rfl ⟨by decide, by decide⟩ ⟨by decide, by decide⟩ (Nat.le_of_ble_eq_true rfl) rfl d_P_addPeriodTasks_30 ?_
        refine xi_stk (st' := [.int v3, .int x4, .ref r0]) rfl ?_
        refine xi_aload_n hC d_P_addPeriodTasks_33 rfl 3 rfl ?_
        obtain ⟨hI8, hE⟩ := xchk_inv hE
        obtain ⟨h6, hE7, hE⟩ := xb1_inv hE
        refine xi_callV (as := [.int x4, .int v3, .ref r3]) (st := []) (C := R_P) (T := T_P) (N := 6) hC (x_P_addTask hE7) rfl (by decide) hI8 xt_122 xt_123 xt_124 xt_38 xt_121 ⟨by decide, by decide, (by decide +kernel : (parseMethodDescriptor y_P_addTask.desc).map (fun d => d.parameters.length) = some 3)⟩ rfl rfl ⟨by decide, by decide⟩ ⟨by decide, by decide⟩ (Nat.le_of_ble_eq_true rfl) rfl d_P_addPeriodTasks_34 ?_
        refine xi_stk (st' := []) rfl ?_
        refine xi_aload_n hC d_P_addPeriodTasks_37 rfl 2 rfl ?_
        refine xi_iload_n hC d_P_addPeriodTasks_38 rfl 1 rfl ?_
        refine xi_iload hC d_P_addPeriodTasks_39 4 rfl ?_
        obtain ⟨hI11, hE⟩ := xchk_inv hE
        obtain ⟨v9, hE10, hE⟩ := xb1_inv hE
        refine xi_callV (as := [.int x1, .int x4]) (st := []) (C := R_U) (T := T_U) (N := 6) hC (x_U_periodAbove hE10) rfl (by decide) hI11 xt_130 xt_131 xt_132 xt_23 xt_129 ⟨by decide, by decide, (by decide +kernel : (parseMethodDescriptor y_U_periodAbove.desc).map (fun d => d.parameters.length) = some 2)⟩ rfl rfl ⟨by decide, by decide⟩ ⟨by decide, by decide⟩ (Nat.le_of_ble_eq_true rfl) rfl d_P_addPeriodTasks_41 ?_
        refine xi_stk (st' := [.int v9]) rfl ?_
        refine xi_istore (lv' := [(4, .int v9), (0, .ref r0), (1, .int x1), (2, .ref r2), (3, .ref r3), (5, .int x5)]) hC d_P_addPeriodTasks_44 (by decide) rfl ?_
        refine xi_iinc (v := x5 + 1) (lv' := [(5, .int (x5 + 1)), (4, .int v9), (0, .ref r0), (1, .int x1), (2, .ref r2), (3, .ref r3)]) hC d_P_addPeriodTasks_46 5 rfl rfl (by decide) rfl ?_
        refine xi_goto (tgt := 11) hC d_P_addPeriodTasks_49 (by decide) ?_
        refine xi_locs (lv' := [(0, .ref r0), (1, .int x1), (2, .ref r2), (3, .ref r3), (4, .int v9), (5, .int (x5 + 1))]) [2, 3, 4, 5, 1, 0] rfl ?_
        exact ih _ _ _ _ _ _ _ _ _ hE
set_option maxRecDepth 100000 in
set_option maxHeartbeats 4000000 in
theorem s_P_addPeriodTasks_0 {p : Program} {l : Launch} {e : Env} {s : State} {m : MethodId} {args : Array Value} {below : List Frame} {meth : Method} {c : Code} {D : va_G} {A : Nat → Prop} {ad0 : Nat → Nat} {n0 : Nat} (hC : XC p s m args c c_P_addPeriodTasks 6 y_P_addPeriodTasks.cls XTs XCL XNW XAL D A) (hr : meth.sig.returnType = none) (hlk : meth.locks = false) (hnm : meth.name = y_P_addPeriodTasks.name)   (r0 : Nat) (x1 : Int32) (r2 : Nat) (r3 : Nat) (n : Nat) (h : XH) (h' : XH) (hE : D_P_addPeriodTasks_0  r0 x1 r2 r3 h = some h') : XW p l e ({ frames := 3, cells := 0, slots := 0, locals := 69 } : Room) s m args below meth c 6 XCL D A ad0 n0 0 0 (MQ below (xQc D XCL n0 ad0 A none n h') args s 0 0 A) n h 0 [(0, .ref r0), (1, .int x1), (2, .ref r2), (3, .ref r3)] [] := by
  unfold D_P_addPeriodTasks_0 at hE
  refine xi_aload_n hC d_P_addPeriodTasks_0 rfl 2 rfl ?_
  refine xi_iload_n hC d_P_addPeriodTasks_1 rfl 1 rfl ?_
  refine xi_iconst (v := (0 : Int32)) hC d_P_addPeriodTasks_2 (by decide) ?_
  obtain ⟨hI3, hE⟩ := xchk_inv hE
  obtain ⟨v1, hE2, hE⟩ := xb1_inv hE
  refine xi_callV (as := [.int x1, .int (0 : Int32)]) (st := []) (C := R_U) (T := T_U) (N := 6) hC (x_U_periodAbove hE2) rfl (by decide) hI3 xt_130 xt_131 xt_132 xt_23 xt_129 ⟨by decide, by decide, (by decide +kernel : (parseMethodDescriptor y_U_periodAbove.desc).map (fun d => d.parameters.length) = some 2)⟩ rfl rfl ⟨by decide, by decide⟩ ⟨by decide, by decide⟩ (Nat.le_of_ble_eq_true rfl) rfl d_P_addPeriodTasks_3 ?_
  refine xi_stk (st' := [.int v1]) rfl ?_
  refine xi_istore (lv' := [(4, .int v1), (0, .ref r0), (1, .int x1), (2, .ref r2), (3, .ref r3)]) hC d_P_addPeriodTasks_6 (by decide) rfl ?_
  refine xi_iconst (v := (0 : Int32)) hC d_P_addPeriodTasks_8 (by decide) ?_
  refine xi_istore (lv' := [(5, .int (0 : Int32)), (4, .int v1), (0, .ref r0), (1, .int x1), (2, .ref r2), (3, .ref r3)]) hC d_P_addPeriodTasks_9 (by decide) rfl ?_
  refine xi_locs (lv' := [(0, .ref r0), (1, .int x1), (2, .ref r2), (3, .ref r3), (4, .int v1), (5, .int (0 : Int32))]) [2, 3, 4, 5, 1, 0] rfl ?_
  exact s_P_addPeriodTasks_11 hC hr hlk hnm 5000 _ _ _ _ _ _ _ _ _ hE
set_option maxRecDepth 100000 in
theorem x_P_addPeriodTasks {l : Launch} {D : va_G} {r0 : Nat} {x1 : Int32} {r2 : Nat} {r3 : Nat} {n : Nat} {h : XH} {h' : XH} (hE : X_P_addPeriodTasks r0 x1 r2 r3 h = some h') : XMet l y_P_addPeriodTasks c_P_addPeriodTasks 6 none XTs XCL XNW XAL D ({ frames := 3, cells := 0, slots := 0, locals := 69 } : Room) 0 0 [.ref r0, .int x1, .ref r2, .ref r3] n h none n h' := by
  refine XMet.mk (by decide) xNW_good xTs_good (Nat.le_of_ble_eq_true rfl) ?_
  intro p e s m args below meth c A ad0 hC hr hlk hnm
  refine xi_locs (lv' := [(0, .ref r0), (1, .int x1), (2, .ref r2), (3, .ref r3)]) [0, 1, 2, 3] rfl ?_
  exact s_P_addPeriodTasks_0 hC hr hlk hnm _ _ _ _ n h _ hE

set_option maxRecDepth 100000 in
set_option maxHeartbeats 4000000 in
theorem s_P_layOut_38 {p : Program} {l : Launch} {e : Env} {s : State} {m : MethodId} {args : Array Value} {below : List Frame} {meth : Method} {c : Code} {D : va_G} {A : Nat → Prop} {ad0 : Nat → Nat} {n0 : Nat} (hC : XC p s m args c c_P_layOut 6 y_P_layOut.cls XTs XCL XNW XAL D A) (hr : meth.sig.returnType = none) (hlk : meth.locks = false) (hnm : meth.name = y_P_layOut.name) {k7 : Nat → Nat → Nat → Int32 → XH → Option (XH)} (n : Nat) (h' : XH) (hk7 : ∀ (r0 : Nat) (r1 : Nat) (r2 : Nat) (x3 : Int32) (h1 : XH), k7 r0 r1 r2 x3 h1 = some h' → XW p l e ({ frames := 4, cells := 0, slots := 0, locals := 94 } : Room) s m args below meth c 6 XCL D A ad0 n0 0 0 (MQ below (xQc D XCL n0 ad0 A none n h') args s 0 0 A) n h1 7 [(0, .ref r0), (1, .ref r1), (2, .ref r2), (3, .int x3)] []) : ∀ (f : Nat) (r0 : Nat) (r1 : Nat) (r2 : Nat) (x3 : Int32) (x5 : Int32) (h : XH) , D_P_layOut_38 k7 f r0 r1 r2 x3 x5 h = some h' → XW p l e ({ frames := 4, cells := 0, slots := 0, locals := 94 } : Room) s m args below meth c 6 XCL D A ad0 n0 0 0 (MQ below (xQc D XCL n0 ad0 A none n h') args s 0 0 A) n h 38 [(0, .ref r0), (1, .ref r1), (2, .ref r2), (3, .int x3), (5, .int x5)] [] := by
  intro f
  induction f with
  | zero =>
    intro r0 r1 r2 x3 x5 h hE
    exact absurd hE (by simp [D_P_layOut_38])
  | succ fu ih =>
    intro r0 r1 r2 x3 x5 h hE
    simp only [D_P_layOut_38] at hE
    refine xi_iload hC d_P_layOut_38 4 rfl ?_
    refine xi_aload_n hC d_P_layOut_40 rfl 0 rfl ?_
    obtain ⟨v2, hE1, hE⟩ := xb1_inv hE
    refine xi_get (C := R_P) (T := T_P) (N := 6) (ci := 3) (k := 0) hC rfl iws_P (by decide) xt_116 (by decide) (xgI_inv hE1) d_P_layOut_41 ?_
    refine xi_icmp_gt (tgt := 69) hC d_P_layOut_44 (by decide) (fun hz3 => ?_) (fun hz3 => ?_)
    · rw [if_pos hz3] at hE
      refine xi_iinc (v := x3 + 1) (lv' := [(3, .int (x3 + 1)), (0, .ref r0), (1, .ref r1), (2, .ref r2), (5, .int x5)]) hC d_P_layOut_69 3 rfl rfl (by decide) rfl ?_
      refine xi_goto (tgt := 7) hC d_P_layOut_72 (by decide) ?_
      refine xi_locs (lv' := [(0, .ref r0), (1, .ref r1), (2, .ref r2), (3, .int (x3 + 1))]) [1, 2, 3, 0] rfl ?_
      exact hk7 _ _ _ _ _ hE
    · rw [if_neg hz3] at hE
      refine xi_aload_n hC d_P_layOut_47 rfl 0 rfl ?_
      obtain ⟨q5, hE4, hE⟩ := xb1_inv hE
      refine xi_get (C := R_P) (T := T_P) (N := 6) (ci := 3) (k := 3) hC rfl iws_P (by decide) xt_17 (by decide) (xgR_inv hE4) d_P_layOut_48 ?_
      refine xi_iload hC d_P_layOut_51 4 rfl ?_
      refine xi_aload_n hC d_P_layOut_53 rfl 0 rfl ?_
      obtain ⟨v7, hE6, hE⟩ := xb1_inv hE
      refine xi_get (C := R_P) (T := T_P) (N := 6) (ci := 3) (k := 0) hC rfl iws_P (by decide) xt_116 (by decide) (xgI_inv hE6) d_P_layOut_54 ?_
      refine xi_iload hC d_P_layOut_57 4 rfl ?_
      refine xi_isub hC d_P_layOut_59 ?_
      refine xi_iconst (v := (1 : Int32)) hC d_P_layOut_60 (by decide) ?_
      refine xi_iadd hC d_P_layOut_61 ?_
      obtain ⟨h8, hE9, hE⟩ := xb1_inv hE
      refine xi_iast hC hE9 d_P_layOut_62 ?_
      refine xi_iinc (v := x5 + 1) (lv' := [(5, .int (x5 + 1)), (0, .ref r0), (1, .ref r1), (2, .ref r2), (3, .int x3)]) hC d_P_layOut_63 4 rfl rfl (by decide) rfl ?_
      refine xi_goto (tgt := 38) hC d_P_layOut_66 (by decide) ?_
      refine xi_locs (lv' := [(0, .ref r0), (1, .ref r1), (2, .ref r2), (3, .int x3), (5, .int (x5 + 1))]) [1, 2, 3, 4, 0] rfl ?_
      exact ih _ _ _ _ _ _ hE
set_option maxRecDepth 100000 in
set_option maxHeartbeats 4000000 in
theorem s_P_layOut_7 {p : Program} {l : Launch} {e : Env} {s : State} {m : MethodId} {args : Array Value} {below : List Frame} {meth : Method} {c : Code} {D : va_G} {A : Nat → Prop} {ad0 : Nat → Nat} {n0 : Nat} (hC : XC p s m args c c_P_layOut 6 y_P_layOut.cls XTs XCL XNW XAL D A) (hr : meth.sig.returnType = none) (hlk : meth.locks = false) (hnm : meth.name = y_P_layOut.name)   : ∀ (f : Nat) (r0 : Nat) (r1 : Nat) (r2 : Nat) (x3 : Int32) (n : Nat) (h : XH) (h' : XH), D_P_layOut_7  f r0 r1 r2 x3 h = some h' → XW p l e ({ frames := 4, cells := 0, slots := 0, locals := 94 } : Room) s m args below meth c 6 XCL D A ad0 n0 0 0 (MQ below (xQc D XCL n0 ad0 A none n h') args s 0 0 A) n h 7 [(0, .ref r0), (1, .ref r1), (2, .ref r2), (3, .int x3)] [] := by
  intro f
  induction f with
  | zero =>
    intro r0 r1 r2 x3 n h h' hE
    exact absurd hE (by simp [D_P_layOut_7])
  | succ fu ih =>
    intro r0 r1 r2 x3 n h h' hE
    simp only [D_P_layOut_7] at hE
    refine xi_iload_n hC d_P_layOut_7 rfl 3 rfl ?_
    refine xi_iconst (v := (4 : Int32)) hC d_P_layOut_8 (by decide) ?_
    refine xi_icmp_gt (tgt := 75) hC d_P_layOut_9 (by decide) (fun hz1 => ?_) (fun hz1 => ?_)
    · rw [if_pos hz1] at hE
      cases hE
      exact xi_vret hC hr hlk d_P_layOut_75
    · rw [if_neg hz1] at hE
      refine xi_aload_n hC d_P_layOut_12 rfl 0 rfl ?_
      obtain ⟨v3, hE2, hE⟩ := xb1_inv hE
      refine xi_get (C := R_P) (T := T_P) (N := 6) (ci := 3) (k := 0) hC rfl iws_P (by decide) xt_116 (by decide) (xgI_inv hE2) d_P_layOut_13 ?_
      refine xi_istore (lv' := [(4, .int v3), (0, .ref r0), (1, .ref r1), (2, .ref r2), (3, .int x3)]) hC d_P_layOut_16 (by decide) rfl ?_
      refine xi_aload_n hC d_P_layOut_18 rfl 1 rfl ?_
      refine xi_iload_n hC d_P_layOut_19 rfl 4 rfl ?_
      refine xi_aload_n hC d_P_layOut_20 rfl 2 rfl ?_
      refine xi_aload_n hC d_P_layOut_21 rfl 3 rfl ?_
      obtain ⟨hI6, hE⟩ := xchk_inv hE
      obtain ⟨h4, hE5, hE⟩ := xb1_inv hE
      refine xi_callV (as := [.int x3, .ref r1, .ref r2]) (st := []) (C := R_P) (T := T_P) (N := 6) hC (x_P_addEventTasks hE5) rfl (by decide) hI6 xt_134 xt_135 xt_136 xt_38 xt_133 ⟨by decide, by decide, (by decide +kernel : (parseMethodDescriptor y_P_addEventTasks.desc).map (fun d => d.parameters.length) = some 3)⟩ rfl rfl ⟨by decide, by decide⟩ ⟨by decide, by decide⟩ (Nat.le_of_ble_eq_true rfl) rfl d_P_layOut_22 ?_
      refine xi_stk (st' := []) rfl ?_
      refine xi_aload_n hC d_P_layOut_25 rfl 1 rfl ?_
      refine xi_iload_n hC d_P_layOut_26 rfl 4 rfl ?_
      refine xi_aload_n hC d_P_layOut_27 rfl 2 rfl ?_
      refine xi_aload_n hC d_P_layOut_28 rfl 3 rfl ?_
      obtain ⟨hI9, hE⟩ := xchk_inv hE
      obtain ⟨h7, hE8, hE⟩ := xb1_inv hE
      refine xi_callV (as := [.int x3, .ref r1, .ref r2]) (st := []) (C := R_P) (T := T_P) (N := 6) hC (x_P_addPeriodTasks hE8) rfl (by decide) hI9 xt_138 xt_139 xt_140 xt_38 xt_137 ⟨by decide, by decide, (by decide +kernel : (parseMethodDescriptor y_P_addPeriodTasks.desc).map (fun d => d.parameters.length) = some 3)⟩ rfl rfl ⟨by decide, by decide⟩ ⟨by decide, by decide⟩ (Nat.le_of_ble_eq_true rfl) rfl d_P_layOut_29 ?_
      refine xi_stk (st' := []) rfl ?_
      refine xi_iload hC d_P_layOut_32 0 rfl ?_
      refine xi_iconst (v := (1 : Int32)) hC d_P_layOut_34 (by decide) ?_
      refine xi_iadd hC d_P_layOut_35 ?_
      refine xi_istore (lv' := [(5, .int (v3 + (1 : Int32))), (4, .int v3), (0, .ref r0), (1, .ref r1), (2, .ref r2), (3, .int x3)]) hC d_P_layOut_36 (by decide) rfl ?_
      refine xi_locs (lv' := [(0, .ref r0), (1, .ref r1), (2, .ref r2), (3, .int x3), (5, .int (v3 + (1 : Int32)))]) [2, 3, 4, 5, 0] rfl ?_
      exact s_P_layOut_38 hC hr hlk hnm _ _ (fun y0 y1 y2 y3 h1 z => ih y0 y1 y2 y3 _ h1 _ z) 5000 _ _ _ _ _ _ hE
set_option maxRecDepth 100000 in
set_option maxHeartbeats 4000000 in
theorem s_P_layOut_0 {p : Program} {l : Launch} {e : Env} {s : State} {m : MethodId} {args : Array Value} {below : List Frame} {meth : Method} {c : Code} {D : va_G} {A : Nat → Prop} {ad0 : Nat → Nat} {n0 : Nat} (hC : XC p s m args c c_P_layOut 6 y_P_layOut.cls XTs XCL XNW XAL D A) (hr : meth.sig.returnType = none) (hlk : meth.locks = false) (hnm : meth.name = y_P_layOut.name)   (r0 : Nat) (r1 : Nat) (r2 : Nat) (n : Nat) (h : XH) (h' : XH) (hE : D_P_layOut_0  r0 r1 r2 h = some h') : XW p l e ({ frames := 4, cells := 0, slots := 0, locals := 94 } : Room) s m args below meth c 6 XCL D A ad0 n0 0 0 (MQ below (xQc D XCL n0 ad0 A none n h') args s 0 0 A) n h 0 [(0, .ref r0), (1, .ref r1), (2, .ref r2)] [] := by
  unfold D_P_layOut_0 at hE
  refine xi_aload_n hC d_P_layOut_0 rfl 0 rfl ?_
  refine xi_iconst (v := (0 : Int32)) hC d_P_layOut_1 (by decide) ?_
  obtain ⟨h1, hE2, hE⟩ := xb1_inv hE
  refine xi_put (C := R_P) (T := T_P) (N := 6) (ci := 3) (k := 0) hC ty_P rfl iws_P tok_P nok_P (by decide) xt_116 (by decide) rfl (fun _ => rfl) (fun _ => rfl) hE2 d_P_layOut_2 ?_
  refine xi_iconst (v := (1 : Int32)) hC d_P_layOut_5 (by decide) ?_
  refine xi_istore_n (lv' := [(3, .int (1 : Int32)), (0, .ref r0), (1, .ref r1), (2, .ref r2)]) hC d_P_layOut_6 rfl (by decide) rfl ?_
  refine xi_locs (lv' := [(0, .ref r0), (1, .ref r1), (2, .ref r2), (3, .int (1 : Int32))]) [1, 2, 3, 0] rfl ?_
  exact s_P_layOut_7 hC hr hlk hnm 5000 _ _ _ _ _ _ _ hE
set_option maxRecDepth 100000 in
theorem x_P_layOut {l : Launch} {D : va_G} {r0 : Nat} {r1 : Nat} {r2 : Nat} {n : Nat} {h : XH} {h' : XH} (hE : X_P_layOut r0 r1 r2 h = some h') : XMet l y_P_layOut c_P_layOut 6 none XTs XCL XNW XAL D ({ frames := 4, cells := 0, slots := 0, locals := 94 } : Room) 0 0 [.ref r0, .ref r1, .ref r2] n h none n h' := by
  refine XMet.mk (by decide) xNW_good xTs_good (Nat.le_of_ble_eq_true rfl) ?_
  intro p e s m args below meth c A ad0 hC hr hlk hnm
  refine xi_locs (lv' := [(0, .ref r0), (1, .ref r1), (2, .ref r2)]) [0, 1, 2] rfl ?_
  exact s_P_layOut_0 hC hr hlk hnm _ _ _ n h _ hE

set_option maxRecDepth 100000 in
set_option maxHeartbeats 4000000 in
theorem s_T_build_7 {p : Program} {l : Launch} {e : Env} {s : State} {m : MethodId} {args : Array Value} {below : List Frame} {meth : Method} {c : Code} {D : va_G} {A : Nat → Prop} {ad0 : Nat → Nat} {n0 : Nat} (hC : XC p s m args c c_T_build 2 y_T_build.cls XTs XCL XNW XAL D A) (hr : meth.sig.returnType = some .int) (hlk : meth.locks = false) (hnm : meth.name = y_T_build.name)   : ∀ (f : Nat) (r0 : Nat) (x1 : Int32) (n : Nat) (h : XH) (rr : Int32) (n' : Nat) (h' : XH), D_T_build_7  f r0 x1 n h = some (rr, n', h') → XW p l e ({ frames := 5, cells := 6, slots := 131, locals := 119 } : Room) s m args below meth c 2 XCL D A ad0 n0 0 0 (MQ below (xQc D XCL n0 ad0 A (some (.int rr)) n' h') args s 6 131 A) n h 7 [(0, .ref r0), (1, .int x1)] [] := by
  intro f
  induction f with
  | zero =>
    intro r0 x1 n h rr n' h' hE
    exact absurd hE (by simp [D_T_build_7])
  | succ fu ih =>
    intro r0 x1 n h rr n' h' hE
    simp only [D_T_build_7] at hE
    refine xi_iload_n hC d_T_build_7 rfl 1 rfl ?_
    refine xi_iconst (v := (4 : Int32)) hC d_T_build_8 (by decide) ?_
    refine xi_icmp_gt (tgt := 34) hC d_T_build_9 (by decide) (fun hz1 => ?_) (fun hz1 => ?_)
    · rw [if_pos hz1] at hE
      refine xi_aload_n hC d_T_build_34 rfl 0 rfl ?_
      obtain ⟨hI6, hE⟩ := xchk_inv hE
      obtain ⟨q2, n3, h4, hE5, hE⟩ := xb3_inv hE
      refine xi_callV (as := []) (st := []) (C := R_T) (T := T_T) (N := 6) hC (x_T_nextPlan hE5) rfl (by decide) hI6 xt_142 xt_143 xt_144 xt_47 xt_141 ⟨by decide, by decide, (by decide +kernel : (parseMethodDescriptor y_T_nextPlan.desc).map (fun d => d.parameters.length) = some 0)⟩ rfl rfl ⟨by decide, by decide⟩ ⟨by decide, by decide⟩ (Nat.le_of_ble_eq_true rfl) rfl d_T_build_35 ?_
      refine xi_stk (st' := [.ref q2]) rfl ?_
      refine xi_astore_n (lv' := [(1, .ref q2), (0, .ref r0)]) hC d_T_build_38 rfl (by decide) rfl ?_
      refine xi_aload_n hC d_T_build_39 rfl 0 rfl ?_
      refine xi_aload_n hC d_T_build_40 rfl 1 rfl ?_
      obtain ⟨q8, hE7, hE⟩ := xb1_inv hE
      refine xi_get (C := R_T) (T := T_T) (N := 6) (ci := 0) (k := 0) hC rfl iws_T (by decide) xt_27 (by decide) (xgR_inv hE7) d_T_build_41 ?_
      refine xi_aload_n hC d_T_build_44 rfl 1 rfl ?_
      obtain ⟨q10, hE9, hE⟩ := xb1_inv hE
      refine xi_get (C := R_T) (T := T_T) (N := 6) (ci := 0) (k := 1) hC rfl iws_T (by decide) xt_34 (by decide) (xgR_inv hE9) d_T_build_45 ?_
      obtain ⟨hI13, hE⟩ := xchk_inv hE
      obtain ⟨h11, hE12, hE⟩ := xb1_inv hE
      refine xi_callV (as := [.ref q8, .ref q10]) (st := []) (C := R_P) (T := T_P) (N := 6) hC (x_P_layOut hE12) rfl (by decide) hI13 xt_146 xt_147 xt_148 xt_38 xt_145 ⟨by decide, by decide, (by decide +kernel : (parseMethodDescriptor y_P_layOut.desc).map (fun d => d.parameters.length) = some 2)⟩ rfl rfl ⟨by decide, by decide⟩ ⟨by decide, by decide⟩ (Nat.le_of_ble_eq_true rfl) rfl d_T_build_48 ?_
      refine xi_stk (st' := []) rfl ?_
      refine xi_aload_n hC d_T_build_51 rfl 1 rfl ?_
      refine xi_aload_n hC d_T_build_52 rfl 0 rfl ?_
      obtain ⟨h14, hE15, hE⟩ := xb1_inv hE
      refine xi_put (C := R_T) (T := T_T) (N := 6) (ci := 0) (k := 5) hC ty_T rfl iws_T tok_T nok_T (by decide) xt_53 (by decide) rfl (fun _ => rfl) (fun _ => rfl) hE15 d_T_build_53 ?_
      refine xi_aload_n hC d_T_build_56 rfl 0 rfl ?_
      obtain ⟨v17, hE16, hE⟩ := xb1_inv hE
      refine xi_getN (C := R_P) (T := T_P) (N := 6) (ci := 3) (k := 0) hC rfl iws_P (by decide) xn_3 (by decide) (xgI_inv hE16) d_T_build_57 ?_
      cases hE
      exact xi_iret hC hr hlk d_T_build_60
    · rw [if_neg hz1] at hE
      refine xi_aload_n hC d_T_build_12 rfl 0 rfl ?_
      obtain ⟨q19, hE18, hE⟩ := xb1_inv hE
      refine xi_get (C := R_T) (T := T_T) (N := 6) (ci := 0) (k := 0) hC rfl iws_T (by decide) xt_27 (by decide) (xgR_inv hE18) d_T_build_13 ?_
      refine xi_iload_n hC d_T_build_16 rfl 1 rfl ?_
      obtain ⟨hI22, hE⟩ := xchk_inv hE
      obtain ⟨v20, hE21, hE⟩ := xb1_inv hE
      refine xi_callV (as := [.int x1]) (st := []) (C := R_U) (T := T_U) (N := 6) hC (x_U_tasksOn hE21) rfl (by decide) hI22 xt_150 xt_151 xt_152 xt_23 xt_149 ⟨by decide, by decide, (by decide +kernel : (parseMethodDescriptor y_U_tasksOn.desc).map (fun d => d.parameters.length) = some 1)⟩ rfl rfl ⟨by decide, by decide⟩ ⟨by decide, by decide⟩ (Nat.le_of_ble_eq_true rfl) rfl d_T_build_17 ?_
      refine xi_stk (st' := [.int v20]) rfl ?_
      refine xi_bipush (v := (12 : Int32)) hC d_T_build_20 (by decide) ?_
      refine xi_icmp_le (tgt := 28) hC d_T_build_22 (by decide) (fun hz23 => ?_) (fun hz23 => ?_)
      · rw [if_pos hz23] at hE
        refine xi_iinc (v := x1 + 1) (lv' := [(1, .int (x1 + 1)), (0, .ref r0)]) hC d_T_build_28 1 rfl rfl (by decide) rfl ?_
        refine xi_goto (tgt := 7) hC d_T_build_31 (by decide) ?_
        refine xi_locs (lv' := [(0, .ref r0), (1, .int (x1 + 1))]) [1, 0] rfl ?_
        exact ih _ _ _ _ _ _ _ hE
      · rw [if_neg hz23] at hE
        refine xi_bipush (v := (-4 : Int32)) hC d_T_build_25 (by decide) ?_
        cases hE
        refine xi_widen (k1 := 6) (k2 := 131) (by decide) (by decide) ?_
        exact xi_iret hC hr hlk d_T_build_27
set_option maxRecDepth 100000 in
set_option maxHeartbeats 4000000 in
theorem s_T_build_0 {p : Program} {l : Launch} {e : Env} {s : State} {m : MethodId} {args : Array Value} {below : List Frame} {meth : Method} {c : Code} {D : va_G} {A : Nat → Prop} {ad0 : Nat → Nat} {n0 : Nat} (hC : XC p s m args c c_T_build 2 y_T_build.cls XTs XCL XNW XAL D A) (hr : meth.sig.returnType = some .int) (hlk : meth.locks = false) (hnm : meth.name = y_T_build.name)   (r0 : Nat) (n : Nat) (h : XH) (rr : Int32) (n' : Nat) (h' : XH) (hE : D_T_build_0  r0 n h = some (rr, n', h')) : XW p l e ({ frames := 5, cells := 6, slots := 131, locals := 119 } : Room) s m args below meth c 2 XCL D A ad0 n0 0 0 (MQ below (xQc D XCL n0 ad0 A (some (.int rr)) n' h') args s 6 131 A) n h 0 [(0, .ref r0)] [] := by
  unfold D_T_build_0 at hE
  refine xi_aload_n hC d_T_build_0 rfl 0 rfl ?_
  refine xi_null hC d_T_build_1 ?_
  obtain ⟨h1, hE2, hE⟩ := xb1_inv hE
  refine xi_put (C := R_T) (T := T_T) (N := 6) (ci := 0) (k := 5) hC ty_T rfl iws_T tok_T nok_T (by decide) xt_53 (by decide) rfl (fun _ => rfl) (fun _ => rfl) hE2 d_T_build_2 ?_
  refine xi_iconst (v := (1 : Int32)) hC d_T_build_5 (by decide) ?_
  refine xi_istore_n (lv' := [(1, .int (1 : Int32)), (0, .ref r0)]) hC d_T_build_6 rfl (by decide) rfl ?_
  refine xi_locs (lv' := [(0, .ref r0), (1, .int (1 : Int32))]) [1, 0] rfl ?_
  exact s_T_build_7 hC hr hlk hnm 5000 _ _ _ _ _ _ _ hE
set_option maxRecDepth 100000 in
theorem x_T_build {l : Launch} {D : va_G} {r0 : Nat} {n : Nat} {h : XH} {rr : Int32} {n' : Nat} {h' : XH} (hE : X_T_build r0 n h = some (rr, n', h')) : XMet l y_T_build c_T_build 2 (some .int) XTs XCL XNW XAL D ({ frames := 5, cells := 6, slots := 131, locals := 119 } : Room) 6 131 [.ref r0] n h (some (.int rr)) n' h' := by
  refine XMet.mk (by decide) xNW_good xTs_good (Nat.le_of_ble_eq_true rfl) ?_
  intro p e s m args below meth c A ad0 hC hr hlk hnm
  refine xi_locs (lv' := [(0, .ref r0)]) [0] rfl ?_
  exact s_T_build_0 hC hr hlk hnm _ n h _ _ _ hE

set_option maxRecDepth 100000 in
set_option maxHeartbeats 4000000 in
theorem s_T_task_0 {p : Program} {l : Launch} {e : Env} {s : State} {m : MethodId} {args : Array Value} {below : List Frame} {meth : Method} {c : Code} {D : va_G} {A : Nat → Prop} {ad0 : Nat → Nat} {n0 : Nat} (hC : XC p s m args c c_T_task 2 y_T_task.cls XTs XCL XNW XAL D A) (hr : meth.sig.returnType = some .int) (hlk : meth.locks = false) (hnm : meth.name = y_T_task.name)   (r0 : Nat) (x1 : Int32) (n : Nat) (h : XH) (rr : Int32)  (hE : D_T_task_0  r0 x1 h = some rr) : XW p l e ({ frames := 2, cells := 0, slots := 0, locals := 43 } : Room) s m args below meth c 2 XCL D A ad0 n0 0 0 (MQ below (xQc D XCL n0 ad0 A (some (.int rr)) n h) args s 0 0 A) n h 0 [(0, .ref r0), (1, .int x1)] [] := by
  unfold D_T_task_0 at hE
  refine xi_aload_n hC d_T_task_0 rfl 0 rfl ?_
  obtain ⟨q2, hE1, hE⟩ := xb1_inv hE
  refine xi_get (C := R_T) (T := T_T) (N := 6) (ci := 0) (k := 0) hC rfl iws_T (by decide) xt_27 (by decide) (xgR_inv hE1) d_T_task_1 ?_
  refine xi_iload_n hC d_T_task_4 rfl 1 rfl ?_
  obtain ⟨hI5, hE⟩ := xchk_inv hE
  obtain ⟨v3, hE4, hE⟩ := xb1_inv hE
  refine xi_callV (as := [.int x1]) (st := []) (C := R_U) (T := T_U) (N := 6) hC (x_U_has hE4) rfl (by decide) hI5 xt_74 xt_75 xt_76 xt_23 xt_73 ⟨by decide, by decide, (by decide +kernel : (parseMethodDescriptor y_U_has.desc).map (fun d => d.parameters.length) = some 1)⟩ rfl rfl ⟨by decide, by decide⟩ ⟨by decide, by decide⟩ (Nat.le_of_ble_eq_true rfl) rfl d_T_task_5 ?_
  refine xi_stk (st' := [.int v3]) rfl ?_
  refine xi_if_ne (tgt := 13) hC d_T_task_8 (by decide) (fun hz6 => ?_) (fun hz6 => ?_)
  · rw [if_neg hz6] at hE
    refine xi_aload_n hC d_T_task_13 rfl 0 rfl ?_
    obtain ⟨o8, hE7, hE⟩ := xb1_inv hE
    refine xi_get (C := R_T) (T := T_T) (N := 6) (ci := 0) (k := 5) hC rfl iws_T (by decide) xt_53 (by decide) (xgQ_inv hE7) d_T_task_14 ?_
    cases o8 with
    | none =>
      rw [xq_none] at hE
      refine xi_stk (st' := [.null]) rfl ?_
      refine xi_ifnonnullN hC d_T_task_17 ?_
      refine xi_bipush (v := (-3 : Int32)) hC d_T_task_20 (by decide) ?_
      cases hE
      exact xi_iret hC hr hlk d_T_task_22
    | some q9 =>
      rw [xq_some] at hE
      refine xi_stk (st' := [.ref q9]) rfl ?_
      refine xi_ifnonnull (tgt := 23) hC d_T_task_17 (by decide) ?_
      refine xi_aload_n hC d_T_task_23 rfl 0 rfl ?_
      obtain ⟨o11, hE10, hE⟩ := xb1_inv hE
      refine xi_get (C := R_T) (T := T_T) (N := 6) (ci := 0) (k := 5) hC rfl iws_T (by decide) xt_53 (by decide) (xgQ_inv hE10) d_T_task_24 ?_
      cases o11 with
      | none =>
        rw [xq_none] at hE
        refine xi_stk (st' := [.null]) rfl ?_
        cases hE
      | some q12 =>
        rw [xq_some] at hE
        refine xi_stk (st' := [.ref q12]) rfl ?_
        obtain ⟨q14, hE13, hE⟩ := xb1_inv hE
        refine xi_getN (C := R_P) (T := T_P) (N := 6) (ci := 3) (k := 1) hC rfl iws_P (by decide) xn_4 (by decide) (xgR_inv hE13) d_T_task_27 ?_
        refine xi_iload_n hC d_T_task_30 rfl 1 rfl ?_
        obtain ⟨v15, hE16, hE⟩ := xb1_inv hE
        refine xi_iald hC hE16 d_T_task_31 ?_
        cases hE
        exact xi_iret hC hr hlk d_T_task_32
  · rw [if_pos hz6] at hE
    refine xi_iconst (v := (-1 : Int32)) hC d_T_task_11 (by decide) ?_
    cases hE
    exact xi_iret hC hr hlk d_T_task_12
set_option maxRecDepth 100000 in
theorem x_T_task {l : Launch} {D : va_G} {r0 : Nat} {x1 : Int32} {n : Nat} {h : XH} {rr : Int32}  (hE : X_T_task r0 x1 h = some rr) : XMet l y_T_task c_T_task 2 (some .int) XTs XCL XNW XAL D ({ frames := 2, cells := 0, slots := 0, locals := 43 } : Room) 0 0 [.ref r0, .int x1] n h (some (.int rr)) n h := by
  refine XMet.mk (by decide) xNW_good xTs_good (Nat.le_of_ble_eq_true rfl) ?_
  intro p e s m args below meth c A ad0 hC hr hlk hnm
  refine xi_locs (lv' := [(0, .ref r0), (1, .int x1)]) [0, 1] rfl ?_
  exact s_T_task_0 hC hr hlk hnm _ _ n h _ hE

set_option maxRecDepth 100000 in
set_option maxHeartbeats 4000000 in
theorem s_P_hasTask_0 {p : Program} {l : Launch} {e : Env} {s : State} {m : MethodId} {args : Array Value} {below : List Frame} {meth : Method} {c : Code} {D : va_G} {A : Nat → Prop} {ad0 : Nat → Nat} {n0 : Nat} (hC : XC p s m args c c_P_hasTask 2 y_P_hasTask.cls XTs XCL XNW XAL D A) (hr : meth.sig.returnType = some .boolean) (hlk : meth.locks = false) (hnm : meth.name = y_P_hasTask.name)   (r0 : Nat) (x1 : Int32) (n : Nat) (h : XH) (rr : Int32)  (hE : D_P_hasTask_0  r0 x1 h = some rr) : XW p l e ({ frames := 1, cells := 0, slots := 0, locals := 22 } : Room) s m args below meth c 2 XCL D A ad0 n0 0 0 (MQ below (xQc D XCL n0 ad0 A (some (.int rr)) n h) args s 0 0 A) n h 0 [(0, .ref r0), (1, .int x1)] [] := by
  unfold D_P_hasTask_0 at hE
  refine xi_iload_n hC d_P_hasTask_0 rfl 1 rfl ?_
  refine xi_iconst (v := (1 : Int32)) hC d_P_hasTask_1 (by decide) ?_
  refine xi_aload_n hC d_P_hasTask_2 rfl 0 rfl ?_
  obtain ⟨v2, hE1, hE⟩ := xb1_inv hE
  refine xi_get (C := R_P) (T := T_P) (N := 6) (ci := 3) (k := 0) hC rfl iws_P (by decide) xt_116 (by decide) (xgI_inv hE1) d_P_hasTask_3 ?_
  obtain ⟨v3, hE4, hE⟩ := xb1_inv hE
  refine xi_callSN (as := [.int x1, .int (1 : Int32), .int v2]) (st := []) hC (x_T_isWithin hE4) xn_5 xt_46 xt_47 xt_44 ⟨by decide, by decide, (by decide +kernel : (parseMethodDescriptor y_T_isWithin.desc).map (fun d => d.parameters.length) = some 3)⟩ rfl rfl ⟨by decide, by decide⟩ ⟨by decide, by decide⟩ (Nat.le_of_ble_eq_true rfl) rfl d_P_hasTask_6 ?_
  refine xi_stk (st' := [.int v3]) rfl ?_
  obtain ⟨hb5, hE⟩ := xchk_inv hE
  cases hE
  exact xi_zret hC hr (xzb_nar hb5) hlk d_P_hasTask_9
set_option maxRecDepth 100000 in
theorem x_P_hasTask {l : Launch} {D : va_G} {r0 : Nat} {x1 : Int32} {n : Nat} {h : XH} {rr : Int32}  (hE : X_P_hasTask r0 x1 h = some rr) : XMet l y_P_hasTask c_P_hasTask 2 (some .boolean) XTs XCL XNW XAL D ({ frames := 1, cells := 0, slots := 0, locals := 22 } : Room) 0 0 [.ref r0, .int x1] n h (some (.int rr)) n h := by
  refine XMet.mk (by decide) xNW_good xTs_good (Nat.le_of_ble_eq_true rfl) ?_
  intro p e s m args below meth c A ad0 hC hr hlk hnm
  refine xi_locs (lv' := [(0, .ref r0), (1, .int x1)]) [0, 1] rfl ?_
  exact s_P_hasTask_0 hC hr hlk hnm _ _ n h _ hE

set_option maxRecDepth 100000 in
set_option maxHeartbeats 4000000 in
theorem s_P_sizeOf_0 {p : Program} {l : Launch} {e : Env} {s : State} {m : MethodId} {args : Array Value} {below : List Frame} {meth : Method} {c : Code} {D : va_G} {A : Nat → Prop} {ad0 : Nat → Nat} {n0 : Nat} (hC : XC p s m args c c_P_sizeOf 2 y_P_sizeOf.cls XTs XCL XNW XAL D A) (hr : meth.sig.returnType = some .int) (hlk : meth.locks = false) (hnm : meth.name = y_P_sizeOf.name)   (r0 : Nat) (x1 : Int32) (n : Nat) (h : XH) (rr : Int32)  (hE : D_P_sizeOf_0  r0 x1 h = some rr) : XW p l e ({ frames := 0, cells := 0, slots := 0, locals := 0 } : Room) s m args below meth c 2 XCL D A ad0 n0 0 0 (MQ below (xQc D XCL n0 ad0 A (some (.int rr)) n h) args s 0 0 A) n h 0 [(0, .ref r0), (1, .int x1)] [] := by
  unfold D_P_sizeOf_0 at hE
  refine xi_aload_n hC d_P_sizeOf_0 rfl 0 rfl ?_
  obtain ⟨q2, hE1, hE⟩ := xb1_inv hE
  refine xi_get (C := R_P) (T := T_P) (N := 6) (ci := 3) (k := 5) hC rfl iws_P (by decide) xt_19 (by decide) (xgR_inv hE1) d_P_sizeOf_1 ?_
  refine xi_iload_n hC d_P_sizeOf_4 rfl 1 rfl ?_
  refine xi_iconst (v := (1 : Int32)) hC d_P_sizeOf_5 (by decide) ?_
  refine xi_iadd hC d_P_sizeOf_6 ?_
  obtain ⟨v3, hE4, hE⟩ := xb1_inv hE
  refine xi_iald hC hE4 d_P_sizeOf_7 ?_
  refine xi_aload_n hC d_P_sizeOf_8 rfl 0 rfl ?_
  obtain ⟨q6, hE5, hE⟩ := xb1_inv hE
  refine xi_get (C := R_P) (T := T_P) (N := 6) (ci := 3) (k := 5) hC rfl iws_P (by decide) xt_19 (by decide) (xgR_inv hE5) d_P_sizeOf_9 ?_
  refine xi_iload_n hC d_P_sizeOf_12 rfl 1 rfl ?_
  obtain ⟨v7, hE8, hE⟩ := xb1_inv hE
  refine xi_iald hC hE8 d_P_sizeOf_13 ?_
  refine xi_isub hC d_P_sizeOf_14 ?_
  cases hE
  exact xi_iret hC hr hlk d_P_sizeOf_15
set_option maxRecDepth 100000 in
theorem x_P_sizeOf {l : Launch} {D : va_G} {r0 : Nat} {x1 : Int32} {n : Nat} {h : XH} {rr : Int32}  (hE : X_P_sizeOf r0 x1 h = some rr) : XMet l y_P_sizeOf c_P_sizeOf 2 (some .int) XTs XCL XNW XAL D ({ frames := 0, cells := 0, slots := 0, locals := 0 } : Room) 0 0 [.ref r0, .int x1] n h (some (.int rr)) n h := by
  refine XMet.mk (by decide) xNW_good xTs_good (Nat.le_of_ble_eq_true rfl) ?_
  intro p e s m args below meth c A ad0 hC hr hlk hnm
  refine xi_locs (lv' := [(0, .ref r0), (1, .int x1)]) [0, 1] rfl ?_
  exact s_P_sizeOf_0 hC hr hlk hnm _ _ n h _ hE

set_option maxRecDepth 100000 in
set_option maxHeartbeats 4000000 in
theorem s_P_runnableAt_30 {p : Program} {l : Launch} {e : Env} {s : State} {m : MethodId} {args : Array Value} {below : List Frame} {meth : Method} {c : Code} {D : va_G} {A : Nat → Prop} {ad0 : Nat → Nat} {n0 : Nat} (hC : XC p s m args c c_P_runnableAt 3 y_P_runnableAt.cls XTs XCL XNW XAL D A) (hr : meth.sig.returnType = some .int) (hlk : meth.locks = false) (hnm : meth.name = y_P_runnableAt.name)   (s0 : Int32) (n : Nat) (h : XH) (rr : Int32)  (hE : D_P_runnableAt_30  s0 h = some rr) : XW p l e ({ frames := 1, cells := 0, slots := 0, locals := 21 } : Room) s m args below meth c 3 XCL D A ad0 n0 0 0 (MQ below (xQc D XCL n0 ad0 A (some (.int rr)) n h) args s 0 0 A) n h 30 [] [.int s0] := by
  unfold D_P_runnableAt_30 at hE
  cases hE
  exact xi_iret hC hr hlk d_P_runnableAt_30
set_option maxRecDepth 100000 in
set_option maxHeartbeats 4000000 in
theorem s_P_runnableAt_29 {p : Program} {l : Launch} {e : Env} {s : State} {m : MethodId} {args : Array Value} {below : List Frame} {meth : Method} {c : Code} {D : va_G} {A : Nat → Prop} {ad0 : Nat → Nat} {n0 : Nat} (hC : XC p s m args c c_P_runnableAt 3 y_P_runnableAt.cls XTs XCL XNW XAL D A) (hr : meth.sig.returnType = some .int) (hlk : meth.locks = false) (hnm : meth.name = y_P_runnableAt.name)    (n : Nat) (h : XH) (rr : Int32)  (hE : D_P_runnableAt_29   h = some rr) : XW p l e ({ frames := 1, cells := 0, slots := 0, locals := 21 } : Room) s m args below meth c 3 XCL D A ad0 n0 0 0 (MQ below (xQc D XCL n0 ad0 A (some (.int rr)) n h) args s 0 0 A) n h 29 [] [] := by
  unfold D_P_runnableAt_29 at hE
  refine xi_iconst (v := (0 : Int32)) hC d_P_runnableAt_29 (by decide) ?_
  refine xi_locs (lv' := []) [] rfl ?_
  exact s_P_runnableAt_30 hC hr hlk hnm _ _ _ _ hE
set_option maxRecDepth 100000 in
set_option maxHeartbeats 4000000 in
theorem s_P_runnableAt_0 {p : Program} {l : Launch} {e : Env} {s : State} {m : MethodId} {args : Array Value} {below : List Frame} {meth : Method} {c : Code} {D : va_G} {A : Nat → Prop} {ad0 : Nat → Nat} {n0 : Nat} (hC : XC p s m args c c_P_runnableAt 3 y_P_runnableAt.cls XTs XCL XNW XAL D A) (hr : meth.sig.returnType = some .int) (hlk : meth.locks = false) (hnm : meth.name = y_P_runnableAt.name)   (r0 : Nat) (x1 : Int32) (x2 : Int32) (n : Nat) (h : XH) (rr : Int32)  (hE : D_P_runnableAt_0  r0 x1 x2 h = some rr) : XW p l e ({ frames := 1, cells := 0, slots := 0, locals := 21 } : Room) s m args below meth c 3 XCL D A ad0 n0 0 0 (MQ below (xQc D XCL n0 ad0 A (some (.int rr)) n h) args s 0 0 A) n h 0 [(0, .ref r0), (1, .int x1), (2, .int x2)] [] := by
  unfold D_P_runnableAt_0 at hE
  refine xi_iload_n hC d_P_runnableAt_0 rfl 2 rfl ?_
  refine xi_if_lt (tgt := 29) hC d_P_runnableAt_1 (by decide) (fun hz1 => ?_) (fun hz1 => ?_)
  · rw [if_pos hz1] at hE
    refine xi_locs (lv' := []) [] rfl ?_
    exact s_P_runnableAt_29 hC hr hlk hnm _ _ _ hE
  · rw [if_neg hz1] at hE
    refine xi_iload_n hC d_P_runnableAt_4 rfl 2 rfl ?_
    refine xi_aload_n hC d_P_runnableAt_5 rfl 0 rfl ?_
    refine xi_iload_n hC d_P_runnableAt_6 rfl 1 rfl ?_
    obtain ⟨hI4, hE⟩ := xchk_inv hE
    obtain ⟨v2, hE3, hE⟩ := xb1_inv hE
    refine xi_callV (as := [.int x1]) (st := [.int x2]) (C := R_P) (T := T_P) (N := 6) hC (x_P_sizeOf hE3) rfl (by decide) hI4 xt_154 xt_155 xt_156 xt_38 xt_153 ⟨by decide, by decide, (by decide +kernel : (parseMethodDescriptor y_P_sizeOf.desc).map (fun d => d.parameters.length) = some 1)⟩ rfl rfl ⟨by decide, by decide⟩ ⟨by decide, by decide⟩ (Nat.le_of_ble_eq_true rfl) rfl d_P_runnableAt_7 ?_
    refine xi_stk (st' := [.int v2, .int x2]) rfl ?_
    refine xi_icmp_ge (tgt := 29) hC d_P_runnableAt_10 (by decide) (fun hz5 => ?_) (fun hz5 => ?_)
    · rw [if_pos hz5] at hE
      refine xi_locs (lv' := []) [] rfl ?_
      exact s_P_runnableAt_29 hC hr hlk hnm _ _ _ hE
    · rw [if_neg hz5] at hE
      refine xi_aload_n hC d_P_runnableAt_13 rfl 0 rfl ?_
      obtain ⟨q7, hE6, hE⟩ := xb1_inv hE
      refine xi_get (C := R_P) (T := T_P) (N := 6) (ci := 3) (k := 4) hC rfl iws_P (by decide) xt_18 (by decide) (xgR_inv hE6) d_P_runnableAt_14 ?_
      refine xi_aload_n hC d_P_runnableAt_17 rfl 0 rfl ?_
      obtain ⟨q9, hE8, hE⟩ := xb1_inv hE
      refine xi_get (C := R_P) (T := T_P) (N := 6) (ci := 3) (k := 5) hC rfl iws_P (by decide) xt_19 (by decide) (xgR_inv hE8) d_P_runnableAt_18 ?_
      refine xi_iload_n hC d_P_runnableAt_21 rfl 1 rfl ?_
      obtain ⟨v10, hE11, hE⟩ := xb1_inv hE
      refine xi_iald hC hE11 d_P_runnableAt_22 ?_
      refine xi_iload_n hC d_P_runnableAt_23 rfl 2 rfl ?_
      refine xi_iadd hC d_P_runnableAt_24 ?_
      obtain ⟨v12, hE13, hE⟩ := xb1_inv hE
      refine xi_iald hC hE13 d_P_runnableAt_25 ?_
      refine xi_goto (tgt := 30) hC d_P_runnableAt_26 (by decide) ?_
      refine xi_locs (lv' := []) [] rfl ?_
      exact s_P_runnableAt_30 hC hr hlk hnm _ _ _ _ hE
set_option maxRecDepth 100000 in
theorem x_P_runnableAt {l : Launch} {D : va_G} {r0 : Nat} {x1 : Int32} {x2 : Int32} {n : Nat} {h : XH} {rr : Int32}  (hE : X_P_runnableAt r0 x1 x2 h = some rr) : XMet l y_P_runnableAt c_P_runnableAt 3 (some .int) XTs XCL XNW XAL D ({ frames := 1, cells := 0, slots := 0, locals := 21 } : Room) 0 0 [.ref r0, .int x1, .int x2] n h (some (.int rr)) n h := by
  refine XMet.mk (by decide) xNW_good xTs_good (Nat.le_of_ble_eq_true rfl) ?_
  intro p e s m args below meth c A ad0 hC hr hlk hnm
  refine xi_locs (lv' := [(0, .ref r0), (1, .int x1), (2, .int x2)]) [0, 1, 2] rfl ?_
  exact s_P_runnableAt_0 hC hr hlk hnm _ _ _ n h _ hE

set_option maxRecDepth 100000 in
set_option maxHeartbeats 4000000 in
theorem s_T_order_0 {p : Program} {l : Launch} {e : Env} {s : State} {m : MethodId} {args : Array Value} {below : List Frame} {meth : Method} {c : Code} {D : va_G} {A : Nat → Prop} {ad0 : Nat → Nat} {n0 : Nat} (hC : XC p s m args c c_T_order 3 y_T_order.cls XTs XCL XNW XAL D A) (hr : meth.sig.returnType = some .int) (hlk : meth.locks = false) (hnm : meth.name = y_T_order.name)   (r0 : Nat) (x1 : Int32) (x2 : Int32) (n : Nat) (h : XH) (rr : Int32)  (hE : D_T_order_0  r0 x1 x2 h = some rr) : XW p l e ({ frames := 2, cells := 0, slots := 0, locals := 43 } : Room) s m args below meth c 3 XCL D A ad0 n0 0 0 (MQ below (xQc D XCL n0 ad0 A (some (.int rr)) n h) args s 0 0 A) n h 0 [(0, .ref r0), (1, .int x1), (2, .int x2)] [] := by
  unfold D_T_order_0 at hE
  refine xi_aload_n hC d_T_order_0 rfl 0 rfl ?_
  obtain ⟨o2, hE1, hE⟩ := xb1_inv hE
  refine xi_get (C := R_T) (T := T_T) (N := 6) (ci := 0) (k := 5) hC rfl iws_T (by decide) xt_53 (by decide) (xgQ_inv hE1) d_T_order_1 ?_
  cases o2 with
  | none =>
    rw [xq_none] at hE
    refine xi_stk (st' := [.null]) rfl ?_
    refine xi_ifnonnullN hC d_T_order_4 ?_
    refine xi_bipush (v := (-3 : Int32)) hC d_T_order_7 (by decide) ?_
    cases hE
    exact xi_iret hC hr hlk d_T_order_9
  | some q3 =>
    rw [xq_some] at hE
    refine xi_stk (st' := [.ref q3]) rfl ?_
    refine xi_ifnonnull (tgt := 10) hC d_T_order_4 (by decide) ?_
    refine xi_aload_n hC d_T_order_10 rfl 0 rfl ?_
    obtain ⟨o5, hE4, hE⟩ := xb1_inv hE
    refine xi_get (C := R_T) (T := T_T) (N := 6) (ci := 0) (k := 5) hC rfl iws_T (by decide) xt_53 (by decide) (xgQ_inv hE4) d_T_order_11 ?_
    cases o5 with
    | none =>
      rw [xq_none] at hE
      refine xi_stk (st' := [.null]) rfl ?_
      refine xi_iload_n hC d_T_order_14 rfl 1 rfl ?_
      cases hE
    | some q6 =>
      rw [xq_some] at hE
      refine xi_stk (st' := [.ref q6]) rfl ?_
      refine xi_iload_n hC d_T_order_14 rfl 1 rfl ?_
      obtain ⟨hI9, hE⟩ := xchk_inv hE
      obtain ⟨v7, hE8, hE⟩ := xb1_inv hE
      refine xi_callV (as := [.int x1]) (st := []) (C := R_P) (T := T_P) (N := 6) hC (x_P_hasTask hE8) rfl (by decide) hI9 xt_158 xt_159 xt_160 xt_38 xt_157 ⟨by decide, by decide, (by decide +kernel : (parseMethodDescriptor y_P_hasTask.desc).map (fun d => d.parameters.length) = some 1)⟩ rfl rfl ⟨by decide, by decide⟩ ⟨by decide, by decide⟩ (Nat.le_of_ble_eq_true rfl) rfl d_T_order_15 ?_
      refine xi_stk (st' := [.int v7]) rfl ?_
      refine xi_if_ne (tgt := 23) hC d_T_order_18 (by decide) (fun hz10 => ?_) (fun hz10 => ?_)
      · rw [if_neg hz10] at hE
        refine xi_aload_n hC d_T_order_23 rfl 0 rfl ?_
        obtain ⟨o12, hE11, hE⟩ := xb1_inv hE
        refine xi_get (C := R_T) (T := T_T) (N := 6) (ci := 0) (k := 5) hC rfl iws_T (by decide) xt_53 (by decide) (xgQ_inv hE11) d_T_order_24 ?_
        cases o12 with
        | none =>
          rw [xq_none] at hE
          refine xi_stk (st' := [.null]) rfl ?_
          refine xi_iload_n hC d_T_order_27 rfl 1 rfl ?_
          refine xi_iload_n hC d_T_order_28 rfl 2 rfl ?_
          cases hE
        | some q13 =>
          rw [xq_some] at hE
          refine xi_stk (st' := [.ref q13]) rfl ?_
          refine xi_iload_n hC d_T_order_27 rfl 1 rfl ?_
          refine xi_iload_n hC d_T_order_28 rfl 2 rfl ?_
          obtain ⟨hI16, hE⟩ := xchk_inv hE
          obtain ⟨v14, hE15, hE⟩ := xb1_inv hE
          refine xi_callV (as := [.int x1, .int x2]) (st := []) (C := R_P) (T := T_P) (N := 6) hC (x_P_runnableAt hE15) rfl (by decide) hI16 xt_162 xt_163 xt_164 xt_38 xt_161 ⟨by decide, by decide, (by decide +kernel : (parseMethodDescriptor y_P_runnableAt.desc).map (fun d => d.parameters.length) = some 2)⟩ rfl rfl ⟨by decide, by decide⟩ ⟨by decide, by decide⟩ (Nat.le_of_ble_eq_true rfl) rfl d_T_order_29 ?_
          refine xi_stk (st' := [.int v14]) rfl ?_
          cases hE
          exact xi_iret hC hr hlk d_T_order_32
      · rw [if_pos hz10] at hE
        refine xi_iconst (v := (-1 : Int32)) hC d_T_order_21 (by decide) ?_
        cases hE
        exact xi_iret hC hr hlk d_T_order_22
set_option maxRecDepth 100000 in
theorem x_T_order {l : Launch} {D : va_G} {r0 : Nat} {x1 : Int32} {x2 : Int32} {n : Nat} {h : XH} {rr : Int32}  (hE : X_T_order r0 x1 x2 h = some rr) : XMet l y_T_order c_T_order 3 (some .int) XTs XCL XNW XAL D ({ frames := 2, cells := 0, slots := 0, locals := 43 } : Room) 0 0 [.ref r0, .int x1, .int x2] n h (some (.int rr)) n h := by
  refine XMet.mk (by decide) xNW_good xTs_good (Nat.le_of_ble_eq_true rfl) ?_
  intro p e s m args below meth c A ad0 hC hr hlk hnm
  refine xi_locs (lv' := [(0, .ref r0), (1, .int x1), (2, .int x2)]) [0, 1, 2] rfl ?_
  exact s_T_order_0 hC hr hlk hnm _ _ _ n h _ hE

set_option maxRecDepth 100000 in
set_option maxHeartbeats 4000000 in
theorem s_T_rank_0 {p : Program} {l : Launch} {e : Env} {s : State} {m : MethodId} {args : Array Value} {below : List Frame} {meth : Method} {c : Code} {D : va_G} {A : Nat → Prop} {ad0 : Nat → Nat} {n0 : Nat} (hC : XC p s m args c c_T_rank 2 y_T_rank.cls XTs XCL XNW XAL D A) (hr : meth.sig.returnType = some .int) (hlk : meth.locks = false) (hnm : meth.name = y_T_rank.name)   (r0 : Nat) (x1 : Int32) (n : Nat) (h : XH) (rr : Int32)  (hE : D_T_rank_0  r0 x1 h = some rr) : XW p l e ({ frames := 2, cells := 0, slots := 0, locals := 43 } : Room) s m args below meth c 2 XCL D A ad0 n0 0 0 (MQ below (xQc D XCL n0 ad0 A (some (.int rr)) n h) args s 0 0 A) n h 0 [(0, .ref r0), (1, .int x1)] [] := by
  unfold D_T_rank_0 at hE
  refine xi_aload_n hC d_T_rank_0 rfl 0 rfl ?_
  obtain ⟨o2, hE1, hE⟩ := xb1_inv hE
  refine xi_get (C := R_T) (T := T_T) (N := 6) (ci := 0) (k := 5) hC rfl iws_T (by decide) xt_53 (by decide) (xgQ_inv hE1) d_T_rank_1 ?_
  cases o2 with
  | none =>
    rw [xq_none] at hE
    refine xi_stk (st' := [.null]) rfl ?_
    refine xi_ifnonnullN hC d_T_rank_4 ?_
    refine xi_bipush (v := (-3 : Int32)) hC d_T_rank_7 (by decide) ?_
    cases hE
    exact xi_iret hC hr hlk d_T_rank_9
  | some q3 =>
    rw [xq_some] at hE
    refine xi_stk (st' := [.ref q3]) rfl ?_
    refine xi_ifnonnull (tgt := 10) hC d_T_rank_4 (by decide) ?_
    refine xi_aload_n hC d_T_rank_10 rfl 0 rfl ?_
    obtain ⟨o5, hE4, hE⟩ := xb1_inv hE
    refine xi_get (C := R_T) (T := T_T) (N := 6) (ci := 0) (k := 5) hC rfl iws_T (by decide) xt_53 (by decide) (xgQ_inv hE4) d_T_rank_11 ?_
    cases o5 with
    | none =>
      rw [xq_none] at hE
      refine xi_stk (st' := [.null]) rfl ?_
      refine xi_iload_n hC d_T_rank_14 rfl 1 rfl ?_
      cases hE
    | some q6 =>
      rw [xq_some] at hE
      refine xi_stk (st' := [.ref q6]) rfl ?_
      refine xi_iload_n hC d_T_rank_14 rfl 1 rfl ?_
      obtain ⟨hI9, hE⟩ := xchk_inv hE
      obtain ⟨v7, hE8, hE⟩ := xb1_inv hE
      refine xi_callV (as := [.int x1]) (st := []) (C := R_P) (T := T_P) (N := 6) hC (x_P_hasTask hE8) rfl (by decide) hI9 xt_158 xt_159 xt_160 xt_38 xt_157 ⟨by decide, by decide, (by decide +kernel : (parseMethodDescriptor y_P_hasTask.desc).map (fun d => d.parameters.length) = some 1)⟩ rfl rfl ⟨by decide, by decide⟩ ⟨by decide, by decide⟩ (Nat.le_of_ble_eq_true rfl) rfl d_T_rank_15 ?_
      refine xi_stk (st' := [.int v7]) rfl ?_
      refine xi_if_ne (tgt := 23) hC d_T_rank_18 (by decide) (fun hz10 => ?_) (fun hz10 => ?_)
      · rw [if_neg hz10] at hE
        refine xi_aload_n hC d_T_rank_23 rfl 0 rfl ?_
        obtain ⟨o12, hE11, hE⟩ := xb1_inv hE
        refine xi_get (C := R_T) (T := T_T) (N := 6) (ci := 0) (k := 5) hC rfl iws_T (by decide) xt_53 (by decide) (xgQ_inv hE11) d_T_rank_24 ?_
        cases o12 with
        | none =>
          rw [xq_none] at hE
          refine xi_stk (st' := [.null]) rfl ?_
          cases hE
        | some q13 =>
          rw [xq_some] at hE
          refine xi_stk (st' := [.ref q13]) rfl ?_
          obtain ⟨q15, hE14, hE⟩ := xb1_inv hE
          refine xi_getN (C := R_P) (T := T_P) (N := 6) (ci := 3) (k := 3) hC rfl iws_P (by decide) xn_6 (by decide) (xgR_inv hE14) d_T_rank_27 ?_
          refine xi_iload_n hC d_T_rank_30 rfl 1 rfl ?_
          obtain ⟨v16, hE17, hE⟩ := xb1_inv hE
          refine xi_iald hC hE17 d_T_rank_31 ?_
          cases hE
          exact xi_iret hC hr hlk d_T_rank_32
      · rw [if_pos hz10] at hE
        refine xi_iconst (v := (-1 : Int32)) hC d_T_rank_21 (by decide) ?_
        cases hE
        exact xi_iret hC hr hlk d_T_rank_22
set_option maxRecDepth 100000 in
theorem x_T_rank {l : Launch} {D : va_G} {r0 : Nat} {x1 : Int32} {n : Nat} {h : XH} {rr : Int32}  (hE : X_T_rank r0 x1 h = some rr) : XMet l y_T_rank c_T_rank 2 (some .int) XTs XCL XNW XAL D ({ frames := 2, cells := 0, slots := 0, locals := 43 } : Room) 0 0 [.ref r0, .int x1] n h (some (.int rr)) n h := by
  refine XMet.mk (by decide) xNW_good xTs_good (Nat.le_of_ble_eq_true rfl) ?_
  intro p e s m args below meth c A ad0 hC hr hlk hnm
  refine xi_locs (lv' := [(0, .ref r0), (1, .int x1)]) [0, 1] rfl ?_
  exact s_T_rank_0 hC hr hlk hnm _ _ n h _ hE

set_option maxRecDepth 100000 in
set_option maxHeartbeats 4000000 in
theorem s_P_isWrittenAbove_86 {p : Program} {l : Launch} {e : Env} {s : State} {m : MethodId} {args : Array Value} {below : List Frame} {meth : Method} {c : Code} {D : va_G} {A : Nat → Prop} {ad0 : Nat → Nat} {n0 : Nat} (hC : XC p s m args c c_P_isWrittenAbove 7 y_P_isWrittenAbove.cls XTs XCL XNW XAL D A) (hr : meth.sig.returnType = some .boolean) (hlk : meth.locks = false) (hnm : meth.name = y_P_isWrittenAbove.name) {k16 : Nat → Int32 → Nat → Int32 → Int32 → Int32 → XH → Option (Int32)} (n : Nat) (h : XH) (rr : Int32)  (hk16 : ∀ (r0 : Nat) (x1 : Int32) (r2 : Nat) (x3 : Int32) (x4 : Int32) (x5 : Int32), k16 r0 x1 r2 x3 x4 x5 h = some rr → XW p l e ({ frames := 1, cells := 0, slots := 0, locals := 21 } : Room) s m args below meth c 7 XCL D A ad0 n0 0 0 (MQ below (xQc D XCL n0 ad0 A (some (.int rr)) n h) args s 0 0 A) n h 16 [(0, .ref r0), (1, .int x1), (2, .ref r2), (3, .int x3), (4, .int x4), (5, .int x5)] []) (r0 : Nat) (x1 : Int32) (r2 : Nat) (x3 : Int32) (x4 : Int32) (x5 : Int32)  (hE : D_P_isWrittenAbove_86 k16 r0 x1 r2 x3 x4 x5 h = some rr) : XW p l e ({ frames := 1, cells := 0, slots := 0, locals := 21 } : Room) s m args below meth c 7 XCL D A ad0 n0 0 0 (MQ below (xQc D XCL n0 ad0 A (some (.int rr)) n h) args s 0 0 A) n h 86 [(0, .ref r0), (1, .int x1), (2, .ref r2), (3, .int x3), (4, .int x4), (5, .int x5)] [] := by
  unfold D_P_isWrittenAbove_86 at hE
  refine xi_iinc (v := x5 + 1) (lv' := [(5, .int (x5 + 1)), (0, .ref r0), (1, .int x1), (2, .ref r2), (3, .int x3), (4, .int x4)]) hC d_P_isWrittenAbove_86 5 rfl rfl (by decide) rfl ?_
  refine xi_goto (tgt := 16) hC d_P_isWrittenAbove_89 (by decide) ?_
  refine xi_locs (lv' := [(0, .ref r0), (1, .int x1), (2, .ref r2), (3, .int x3), (4, .int x4), (5, .int (x5 + 1))]) [1, 2, 3, 4, 5, 0] rfl ?_
  exact hk16 _ _ _ _ _ _ hE
set_option maxRecDepth 100000 in
set_option maxHeartbeats 4000000 in
theorem s_P_isWrittenAbove_60 {p : Program} {l : Launch} {e : Env} {s : State} {m : MethodId} {args : Array Value} {below : List Frame} {meth : Method} {c : Code} {D : va_G} {A : Nat → Prop} {ad0 : Nat → Nat} {n0 : Nat} (hC : XC p s m args c c_P_isWrittenAbove 7 y_P_isWrittenAbove.cls XTs XCL XNW XAL D A) (hr : meth.sig.returnType = some .boolean) (hlk : meth.locks = false) (hnm : meth.name = y_P_isWrittenAbove.name) {k16 : Nat → Int32 → Nat → Int32 → Int32 → Int32 → XH → Option (Int32)} (n : Nat) (h : XH) (rr : Int32)  (hk16 : ∀ (r0 : Nat) (x1 : Int32) (r2 : Nat) (x3 : Int32) (x4 : Int32) (x5 : Int32), k16 r0 x1 r2 x3 x4 x5 h = some rr → XW p l e ({ frames := 1, cells := 0, slots := 0, locals := 21 } : Room) s m args below meth c 7 XCL D A ad0 n0 0 0 (MQ below (xQc D XCL n0 ad0 A (some (.int rr)) n h) args s 0 0 A) n h 16 [(0, .ref r0), (1, .int x1), (2, .ref r2), (3, .int x3), (4, .int x4), (5, .int x5)] []) (r0 : Nat) (x1 : Int32) (r2 : Nat) (x3 : Int32) (x4 : Int32) (x5 : Int32) (s0 : Int32)  (hE : D_P_isWrittenAbove_60 k16 r0 x1 r2 x3 x4 x5 s0 h = some rr) : XW p l e ({ frames := 1, cells := 0, slots := 0, locals := 21 } : Room) s m args below meth c 7 XCL D A ad0 n0 0 0 (MQ below (xQc D XCL n0 ad0 A (some (.int rr)) n h) args s 0 0 A) n h 60 [(0, .ref r0), (1, .int x1), (2, .ref r2), (3, .int x3), (4, .int x4), (5, .int x5)] [.int s0] := by
  unfold D_P_isWrittenAbove_60 at hE
  refine xi_istore (lv' := [(6, .int s0), (0, .ref r0), (1, .int x1), (2, .ref r2), (3, .int x3), (4, .int x4), (5, .int x5)]) hC d_P_isWrittenAbove_60 (by decide) rfl ?_
  refine xi_iload hC d_P_isWrittenAbove_62 0 rfl ?_
  refine xi_if_eq (tgt := 86) hC d_P_isWrittenAbove_64 (by decide) (fun hz1 => ?_) (fun hz1 => ?_)
  · rw [if_pos hz1] at hE
    refine xi_locs (lv' := [(0, .ref r0), (1, .int x1), (2, .ref r2), (3, .int x3), (4, .int x4), (5, .int x5)]) [1, 2, 3, 4, 5, 6] rfl ?_
    exact s_P_isWrittenAbove_86 hC hr hlk hnm _ _ _ hk16 _ _ _ _ _ _ hE
  · rw [if_neg hz1] at hE
    refine xi_aload_n hC d_P_isWrittenAbove_67 rfl 1 rfl ?_
    obtain ⟨q3, hE2, hE⟩ := xb1_inv hE
    refine xi_get (C := R_P) (T := T_P) (N := 6) (ci := 3) (k := 3) hC rfl iws_P (by decide) xt_17 (by decide) (xgR_inv hE2) d_P_isWrittenAbove_68 ?_
    refine xi_aload_n hC d_P_isWrittenAbove_71 rfl 1 rfl ?_
    obtain ⟨q5, hE4, hE⟩ := xb1_inv hE
    refine xi_get (C := R_P) (T := T_P) (N := 6) (ci := 3) (k := 1) hC rfl iws_P (by decide) xt_15 (by decide) (xgR_inv hE4) d_P_isWrittenAbove_72 ?_
    refine xi_iload hC d_P_isWrittenAbove_75 6 rfl ?_
    obtain ⟨v6, hE7, hE⟩ := xb1_inv hE
    refine xi_iald hC hE7 d_P_isWrittenAbove_77 ?_
    obtain ⟨v8, hE9, hE⟩ := xb1_inv hE
    refine xi_iald hC hE9 d_P_isWrittenAbove_78 ?_
    refine xi_iload hC d_P_isWrittenAbove_79 5 rfl ?_
    refine xi_icmp_le (tgt := 86) hC d_P_isWrittenAbove_81 (by decide) (fun hz10 => ?_) (fun hz10 => ?_)
    · rw [if_pos hz10] at hE
      refine xi_locs (lv' := [(0, .ref r0), (1, .int x1), (2, .ref r2), (3, .int x3), (4, .int x4), (5, .int x5)]) [1, 2, 3, 4, 5, 6] rfl ?_
      exact s_P_isWrittenAbove_86 hC hr hlk hnm _ _ _ hk16 _ _ _ _ _ _ hE
    · rw [if_neg hz10] at hE
      refine xi_iconst (v := (1 : Int32)) hC d_P_isWrittenAbove_84 (by decide) ?_
      cases hE
      exact xi_zret hC hr (by decide) hlk d_P_isWrittenAbove_85
set_option maxRecDepth 100000 in
set_option maxHeartbeats 4000000 in
theorem s_P_isWrittenAbove_59 {p : Program} {l : Launch} {e : Env} {s : State} {m : MethodId} {args : Array Value} {below : List Frame} {meth : Method} {c : Code} {D : va_G} {A : Nat → Prop} {ad0 : Nat → Nat} {n0 : Nat} (hC : XC p s m args c c_P_isWrittenAbove 7 y_P_isWrittenAbove.cls XTs XCL XNW XAL D A) (hr : meth.sig.returnType = some .boolean) (hlk : meth.locks = false) (hnm : meth.name = y_P_isWrittenAbove.name) {k16 : Nat → Int32 → Nat → Int32 → Int32 → Int32 → XH → Option (Int32)} (n : Nat) (h : XH) (rr : Int32)  (hk16 : ∀ (r0 : Nat) (x1 : Int32) (r2 : Nat) (x3 : Int32) (x4 : Int32) (x5 : Int32), k16 r0 x1 r2 x3 x4 x5 h = some rr → XW p l e ({ frames := 1, cells := 0, slots := 0, locals := 21 } : Room) s m args below meth c 7 XCL D A ad0 n0 0 0 (MQ below (xQc D XCL n0 ad0 A (some (.int rr)) n h) args s 0 0 A) n h 16 [(0, .ref r0), (1, .int x1), (2, .ref r2), (3, .int x3), (4, .int x4), (5, .int x5)] []) (r0 : Nat) (x1 : Int32) (r2 : Nat) (x3 : Int32) (x4 : Int32) (x5 : Int32)  (hE : D_P_isWrittenAbove_59 k16 r0 x1 r2 x3 x4 x5 h = some rr) : XW p l e ({ frames := 1, cells := 0, slots := 0, locals := 21 } : Room) s m args below meth c 7 XCL D A ad0 n0 0 0 (MQ below (xQc D XCL n0 ad0 A (some (.int rr)) n h) args s 0 0 A) n h 59 [(0, .ref r0), (1, .int x1), (2, .ref r2), (3, .int x3), (4, .int x4), (5, .int x5)] [] := by
  unfold D_P_isWrittenAbove_59 at hE
  refine xi_iconst (v := (0 : Int32)) hC d_P_isWrittenAbove_59 (by decide) ?_
  refine xi_locs (lv' := [(0, .ref r0), (1, .int x1), (2, .ref r2), (3, .int x3), (4, .int x4), (5, .int x5)]) [0, 1, 2, 3, 4, 5] rfl ?_
  exact s_P_isWrittenAbove_60 hC hr hlk hnm _ _ _ hk16 _ _ _ _ _ _ _ hE
set_option maxRecDepth 100000 in
set_option maxHeartbeats 4000000 in
theorem s_P_isWrittenAbove_16 {p : Program} {l : Launch} {e : Env} {s : State} {m : MethodId} {args : Array Value} {below : List Frame} {meth : Method} {c : Code} {D : va_G} {A : Nat → Prop} {ad0 : Nat → Nat} {n0 : Nat} (hC : XC p s m args c c_P_isWrittenAbove 7 y_P_isWrittenAbove.cls XTs XCL XNW XAL D A) (hr : meth.sig.returnType = some .boolean) (hlk : meth.locks = false) (hnm : meth.name = y_P_isWrittenAbove.name)   : ∀ (f : Nat) (r0 : Nat) (x1 : Int32) (r2 : Nat) (x3 : Int32) (x4 : Int32) (x5 : Int32) (n : Nat) (h : XH) (rr : Int32) , D_P_isWrittenAbove_16  f r0 x1 r2 x3 x4 x5 h = some rr → XW p l e ({ frames := 1, cells := 0, slots := 0, locals := 21 } : Room) s m args below meth c 7 XCL D A ad0 n0 0 0 (MQ below (xQc D XCL n0 ad0 A (some (.int rr)) n h) args s 0 0 A) n h 16 [(0, .ref r0), (1, .int x1), (2, .ref r2), (3, .int x3), (4, .int x4), (5, .int x5)] [] := by
  intro f
  induction f with
  | zero =>
    intro r0 x1 r2 x3 x4 x5 n h rr hE
    exact absurd hE (by simp [D_P_isWrittenAbove_16])
  | succ fu ih =>
    intro r0 x1 r2 x3 x4 x5 n h rr hE
    simp only [D_P_isWrittenAbove_16] at hE
    refine xi_iload hC d_P_isWrittenAbove_16 5 rfl ?_
    refine xi_aload_n hC d_P_isWrittenAbove_18 rfl 2 rfl ?_
    obtain ⟨v2, hE1, hE⟩ := xb1_inv hE
    refine xi_getN (C := R_U) (T := T_U) (N := 6) (ci := 1) (k := 0) hC rfl iws_U (by decide) xn_7 (by decide) (xgI_inv hE1) d_P_isWrittenAbove_19 ?_
    refine xi_icmp_gt (tgt := 92) hC d_P_isWrittenAbove_22 (by decide) (fun hz3 => ?_) (fun hz3 => ?_)
    · rw [if_pos hz3] at hE
      refine xi_iconst (v := (0 : Int32)) hC d_P_isWrittenAbove_92 (by decide) ?_
      cases hE
      exact xi_zret hC hr (by decide) hlk d_P_isWrittenAbove_93
    · rw [if_neg hz3] at hE
      refine xi_aload_n hC d_P_isWrittenAbove_25 rfl 2 rfl ?_
      obtain ⟨q5, hE4, hE⟩ := xb1_inv hE
      refine xi_getN (C := R_U) (T := T_U) (N := 6) (ci := 1) (k := 5) hC rfl iws_U (by decide) xn_8 (by decide) (xgR_inv hE4) d_P_isWrittenAbove_26 ?_
      refine xi_iload hC d_P_isWrittenAbove_29 5 rfl ?_
      obtain ⟨v6, hE7, hE⟩ := xb1_inv hE
      refine xi_iald hC hE7 d_P_isWrittenAbove_31 ?_
      refine xi_iload_n hC d_P_isWrittenAbove_32 rfl 3 rfl ?_
      obtain ⟨v8, hE9, hE⟩ := xb1_inv hE
      refine xi_callSN (as := [.int v6, .int x3]) (st := []) hC (x_T_isIn hE9) xn_2 xt_59 xt_47 xt_58 ⟨by decide, by decide, (by decide +kernel : (parseMethodDescriptor y_T_isIn.desc).map (fun d => d.parameters.length) = some 2)⟩ rfl rfl ⟨by decide, by decide⟩ ⟨by decide, by decide⟩ (Nat.le_of_ble_eq_true rfl) rfl d_P_isWrittenAbove_33 ?_
      refine xi_stk (st' := [.int v8]) rfl ?_
      refine xi_if_eq (tgt := 59) hC d_P_isWrittenAbove_36 (by decide) (fun hz10 => ?_) (fun hz10 => ?_)
      · rw [if_pos hz10] at hE
        refine xi_locs (lv' := [(0, .ref r0), (1, .int x1), (2, .ref r2), (3, .int x3), (4, .int x4), (5, .int x5)]) [0, 1, 2, 3, 4, 5] rfl ?_
        exact s_P_isWrittenAbove_59 hC hr hlk hnm _ _ _ (fun y0 y1 y2 y3 y4 y5 z => ih y0 y1 y2 y3 y4 y5 _ _ _ z) _ _ _ _ _ _ hE
      · rw [if_neg hz10] at hE
        refine xi_aload_n hC d_P_isWrittenAbove_39 rfl 2 rfl ?_
        obtain ⟨q12, hE11, hE⟩ := xb1_inv hE
        refine xi_getN (C := R_U) (T := T_U) (N := 6) (ci := 1) (k := 2) hC rfl iws_U (by decide) xn_9 (by decide) (xgR_inv hE11) d_P_isWrittenAbove_40 ?_
        refine xi_iload hC d_P_isWrittenAbove_43 5 rfl ?_
        obtain ⟨v13, hE14, hE⟩ := xb1_inv hE
        refine xi_iald hC hE14 d_P_isWrittenAbove_45 ?_
        refine xi_aload_n hC d_P_isWrittenAbove_46 rfl 2 rfl ?_
        obtain ⟨q16, hE15, hE⟩ := xb1_inv hE
        refine xi_getN (C := R_U) (T := T_U) (N := 6) (ci := 1) (k := 2) hC rfl iws_U (by decide) xn_9 (by decide) (xgR_inv hE15) d_P_isWrittenAbove_47 ?_
        refine xi_iload_n hC d_P_isWrittenAbove_50 rfl 1 rfl ?_
        obtain ⟨v17, hE18, hE⟩ := xb1_inv hE
        refine xi_iald hC hE18 d_P_isWrittenAbove_51 ?_
        refine xi_icmp_ne (tgt := 59) hC d_P_isWrittenAbove_52 (by decide) (fun hz19 => ?_) (fun hz19 => ?_)
        · rw [if_neg hz19] at hE
          refine xi_locs (lv' := [(0, .ref r0), (1, .int x1), (2, .ref r2), (3, .int x3), (4, .int x4), (5, .int x5)]) [0, 1, 2, 3, 4, 5] rfl ?_
          exact s_P_isWrittenAbove_59 hC hr hlk hnm _ _ _ (fun y0 y1 y2 y3 y4 y5 z => ih y0 y1 y2 y3 y4 y5 _ _ _ z) _ _ _ _ _ _ hE
        · rw [if_pos hz19] at hE
          refine xi_iconst (v := (1 : Int32)) hC d_P_isWrittenAbove_55 (by decide) ?_
          refine xi_goto (tgt := 60) hC d_P_isWrittenAbove_56 (by decide) ?_
          refine xi_locs (lv' := [(0, .ref r0), (1, .int x1), (2, .ref r2), (3, .int x3), (4, .int x4), (5, .int x5)]) [0, 1, 2, 3, 4, 5] rfl ?_
          exact s_P_isWrittenAbove_60 hC hr hlk hnm _ _ _ (fun y0 y1 y2 y3 y4 y5 z => ih y0 y1 y2 y3 y4 y5 _ _ _ z) _ _ _ _ _ _ _ hE
set_option maxRecDepth 100000 in
set_option maxHeartbeats 4000000 in
theorem s_P_isWrittenAbove_0 {p : Program} {l : Launch} {e : Env} {s : State} {m : MethodId} {args : Array Value} {below : List Frame} {meth : Method} {c : Code} {D : va_G} {A : Nat → Prop} {ad0 : Nat → Nat} {n0 : Nat} (hC : XC p s m args c c_P_isWrittenAbove 7 y_P_isWrittenAbove.cls XTs XCL XNW XAL D A) (hr : meth.sig.returnType = some .boolean) (hlk : meth.locks = false) (hnm : meth.name = y_P_isWrittenAbove.name)   (r0 : Nat) (x1 : Int32) (r2 : Nat) (x3 : Int32) (n : Nat) (h : XH) (rr : Int32)  (hE : D_P_isWrittenAbove_0  r0 x1 r2 x3 h = some rr) : XW p l e ({ frames := 1, cells := 0, slots := 0, locals := 21 } : Room) s m args below meth c 7 XCL D A ad0 n0 0 0 (MQ below (xQc D XCL n0 ad0 A (some (.int rr)) n h) args s 0 0 A) n h 0 [(0, .ref r0), (1, .int x1), (2, .ref r2), (3, .int x3)] [] := by
  unfold D_P_isWrittenAbove_0 at hE
  refine xi_aload_n hC d_P_isWrittenAbove_0 rfl 0 rfl ?_
  obtain ⟨q2, hE1, hE⟩ := xb1_inv hE
  refine xi_get (C := R_P) (T := T_P) (N := 6) (ci := 3) (k := 3) hC rfl iws_P (by decide) xt_17 (by decide) (xgR_inv hE1) d_P_isWrittenAbove_1 ?_
  refine xi_aload_n hC d_P_isWrittenAbove_4 rfl 0 rfl ?_
  obtain ⟨q4, hE3, hE⟩ := xb1_inv hE
  refine xi_get (C := R_P) (T := T_P) (N := 6) (ci := 3) (k := 1) hC rfl iws_P (by decide) xt_15 (by decide) (xgR_inv hE3) d_P_isWrittenAbove_5 ?_
  refine xi_iload_n hC d_P_isWrittenAbove_8 rfl 1 rfl ?_
  obtain ⟨v5, hE6, hE⟩ := xb1_inv hE
  refine xi_iald hC hE6 d_P_isWrittenAbove_9 ?_
  obtain ⟨v7, hE8, hE⟩ := xb1_inv hE
  refine xi_iald hC hE8 d_P_isWrittenAbove_10 ?_
  refine xi_istore (lv' := [(4, .int v7), (0, .ref r0), (1, .int x1), (2, .ref r2), (3, .int x3)]) hC d_P_isWrittenAbove_11 (by decide) rfl ?_
  refine xi_iconst (v := (1 : Int32)) hC d_P_isWrittenAbove_13 (by decide) ?_
  refine xi_istore (lv' := [(5, .int (1 : Int32)), (4, .int v7), (0, .ref r0), (1, .int x1), (2, .ref r2), (3, .int x3)]) hC d_P_isWrittenAbove_14 (by decide) rfl ?_
  refine xi_locs (lv' := [(0, .ref r0), (1, .int x1), (2, .ref r2), (3, .int x3), (4, .int v7), (5, .int (1 : Int32))]) [2, 3, 4, 5, 1, 0] rfl ?_
  exact s_P_isWrittenAbove_16 hC hr hlk hnm 5000 _ _ _ _ _ _ _ _ _ hE
set_option maxRecDepth 100000 in
theorem x_P_isWrittenAbove {l : Launch} {D : va_G} {r0 : Nat} {x1 : Int32} {r2 : Nat} {x3 : Int32} {n : Nat} {h : XH} {rr : Int32}  (hE : X_P_isWrittenAbove r0 x1 r2 x3 h = some rr) : XMet l y_P_isWrittenAbove c_P_isWrittenAbove 7 (some .boolean) XTs XCL XNW XAL D ({ frames := 1, cells := 0, slots := 0, locals := 21 } : Room) 0 0 [.ref r0, .int x1, .ref r2, .int x3] n h (some (.int rr)) n h := by
  refine XMet.mk (by decide) xNW_good xTs_good (Nat.le_of_ble_eq_true rfl) ?_
  intro p e s m args below meth c A ad0 hC hr hlk hnm
  refine xi_locs (lv' := [(0, .ref r0), (1, .int x1), (2, .ref r2), (3, .int x3)]) [0, 1, 2, 3] rfl ?_
  exact s_P_isWrittenAbove_0 hC hr hlk hnm _ _ _ _ n h _ hE

set_option maxRecDepth 100000 in
set_option maxHeartbeats 4000000 in
theorem s_P_isCopied_35 {p : Program} {l : Launch} {e : Env} {s : State} {m : MethodId} {args : Array Value} {below : List Frame} {meth : Method} {c : Code} {D : va_G} {A : Nat → Prop} {ad0 : Nat → Nat} {n0 : Nat} (hC : XC p s m args c c_P_isCopied 4 y_P_isCopied.cls XTs XCL XNW XAL D A) (hr : meth.sig.returnType = some .boolean) (hlk : meth.locks = false) (hnm : meth.name = y_P_isCopied.name) {k2 : Nat → Nat → Int32 → Int32 → XH → Option (Int32)} (n : Nat) (h : XH) (rr : Int32)  (hk2 : ∀ (r0 : Nat) (r1 : Nat) (x2 : Int32) (x3 : Int32), k2 r0 r1 x2 x3 h = some rr → XW p l e ({ frames := 2, cells := 0, slots := 0, locals := 47 } : Room) s m args below meth c 4 XCL D A ad0 n0 0 0 (MQ below (xQc D XCL n0 ad0 A (some (.int rr)) n h) args s 0 0 A) n h 2 [(0, .ref r0), (1, .ref r1), (2, .int x2), (3, .int x3)] []) (r0 : Nat) (r1 : Nat) (x2 : Int32) (x3 : Int32)  (hE : D_P_isCopied_35 k2 r0 r1 x2 x3 h = some rr) : XW p l e ({ frames := 2, cells := 0, slots := 0, locals := 47 } : Room) s m args below meth c 4 XCL D A ad0 n0 0 0 (MQ below (xQc D XCL n0 ad0 A (some (.int rr)) n h) args s 0 0 A) n h 35 [(0, .ref r0), (1, .ref r1), (2, .int x2), (3, .int x3)] [] := by
  unfold D_P_isCopied_35 at hE
  refine xi_iinc (v := x3 + 1) (lv' := [(3, .int (x3 + 1)), (0, .ref r0), (1, .ref r1), (2, .int x2)]) hC d_P_isCopied_35 3 rfl rfl (by decide) rfl ?_
  refine xi_goto (tgt := 2) hC d_P_isCopied_38 (by decide) ?_
  refine xi_locs (lv' := [(0, .ref r0), (1, .ref r1), (2, .int x2), (3, .int (x3 + 1))]) [1, 2, 3, 0] rfl ?_
  exact hk2 _ _ _ _ hE
set_option maxRecDepth 100000 in
set_option maxHeartbeats 4000000 in
theorem s_P_isCopied_2 {p : Program} {l : Launch} {e : Env} {s : State} {m : MethodId} {args : Array Value} {below : List Frame} {meth : Method} {c : Code} {D : va_G} {A : Nat → Prop} {ad0 : Nat → Nat} {n0 : Nat} (hC : XC p s m args c c_P_isCopied 4 y_P_isCopied.cls XTs XCL XNW XAL D A) (hr : meth.sig.returnType = some .boolean) (hlk : meth.locks = false) (hnm : meth.name = y_P_isCopied.name)   : ∀ (f : Nat) (r0 : Nat) (r1 : Nat) (x2 : Int32) (x3 : Int32) (n : Nat) (h : XH) (rr : Int32) , D_P_isCopied_2  f r0 r1 x2 x3 h = some rr → XW p l e ({ frames := 2, cells := 0, slots := 0, locals := 47 } : Room) s m args below meth c 4 XCL D A ad0 n0 0 0 (MQ below (xQc D XCL n0 ad0 A (some (.int rr)) n h) args s 0 0 A) n h 2 [(0, .ref r0), (1, .ref r1), (2, .int x2), (3, .int x3)] [] := by
  intro f
  induction f with
  | zero =>
    intro r0 r1 x2 x3 n h rr hE
    exact absurd hE (by simp [D_P_isCopied_2])
  | succ fu ih =>
    intro r0 r1 x2 x3 n h rr hE
    simp only [D_P_isCopied_2] at hE
    refine xi_iload_n hC d_P_isCopied_2 rfl 3 rfl ?_
    refine xi_aload_n hC d_P_isCopied_3 rfl 1 rfl ?_
    obtain ⟨v2, hE1, hE⟩ := xb1_inv hE
    refine xi_getN (C := R_U) (T := T_U) (N := 6) (ci := 1) (k := 0) hC rfl iws_U (by decide) xn_7 (by decide) (xgI_inv hE1) d_P_isCopied_4 ?_
    refine xi_icmp_gt (tgt := 41) hC d_P_isCopied_7 (by decide) (fun hz3 => ?_) (fun hz3 => ?_)
    · rw [if_pos hz3] at hE
      refine xi_iconst (v := (0 : Int32)) hC d_P_isCopied_41 (by decide) ?_
      cases hE
      exact xi_zret hC hr (by decide) hlk d_P_isCopied_42
    · rw [if_neg hz3] at hE
      refine xi_aload_n hC d_P_isCopied_10 rfl 1 rfl ?_
      obtain ⟨q5, hE4, hE⟩ := xb1_inv hE
      refine xi_getN (C := R_U) (T := T_U) (N := 6) (ci := 1) (k := 4) hC rfl iws_U (by decide) xn_10 (by decide) (xgR_inv hE4) d_P_isCopied_11 ?_
      refine xi_iload_n hC d_P_isCopied_14 rfl 3 rfl ?_
      obtain ⟨v6, hE7, hE⟩ := xb1_inv hE
      refine xi_iald hC hE7 d_P_isCopied_15 ?_
      refine xi_iload_n hC d_P_isCopied_16 rfl 2 rfl ?_
      obtain ⟨v8, hE9, hE⟩ := xb1_inv hE
      refine xi_callSN (as := [.int v6, .int x2]) (st := []) hC (x_T_isIn hE9) xn_2 xt_59 xt_47 xt_58 ⟨by decide, by decide, (by decide +kernel : (parseMethodDescriptor y_T_isIn.desc).map (fun d => d.parameters.length) = some 2)⟩ rfl rfl ⟨by decide, by decide⟩ ⟨by decide, by decide⟩ (Nat.le_of_ble_eq_true rfl) rfl d_P_isCopied_17 ?_
      refine xi_stk (st' := [.int v8]) rfl ?_
      refine xi_if_eq (tgt := 35) hC d_P_isCopied_20 (by decide) (fun hz10 => ?_) (fun hz10 => ?_)
      · rw [if_pos hz10] at hE
        refine xi_locs (lv' := [(0, .ref r0), (1, .ref r1), (2, .int x2), (3, .int x3)]) [0, 1, 2, 3] rfl ?_
        exact s_P_isCopied_35 hC hr hlk hnm _ _ _ (fun y0 y1 y2 y3 z => ih y0 y1 y2 y3 _ _ _ z) _ _ _ _ hE
      · rw [if_neg hz10] at hE
        refine xi_aload_n hC d_P_isCopied_23 rfl 0 rfl ?_
        refine xi_iload_n hC d_P_isCopied_24 rfl 3 rfl ?_
        refine xi_aload_n hC d_P_isCopied_25 rfl 1 rfl ?_
        refine xi_iload_n hC d_P_isCopied_26 rfl 2 rfl ?_
        obtain ⟨hI13, hE⟩ := xchk_inv hE
        obtain ⟨v11, hE12, hE⟩ := xb1_inv hE
        refine xi_callV (as := [.int x3, .ref r1, .int x2]) (st := []) (C := R_P) (T := T_P) (N := 6) hC (x_P_isWrittenAbove hE12) rfl (by decide) hI13 xt_166 xt_167 xt_168 xt_38 xt_165 ⟨by decide, by decide, (by decide +kernel : (parseMethodDescriptor y_P_isWrittenAbove.desc).map (fun d => d.parameters.length) = some 3)⟩ rfl rfl ⟨by decide, by decide⟩ ⟨by decide, by decide⟩ (Nat.le_of_ble_eq_true rfl) rfl d_P_isCopied_27 ?_
        refine xi_stk (st' := [.int v11]) rfl ?_
        refine xi_if_eq (tgt := 35) hC d_P_isCopied_30 (by decide) (fun hz14 => ?_) (fun hz14 => ?_)
        · rw [if_pos hz14] at hE
          refine xi_locs (lv' := [(0, .ref r0), (1, .ref r1), (2, .int x2), (3, .int x3)]) [0, 1, 2, 3] rfl ?_
          exact s_P_isCopied_35 hC hr hlk hnm _ _ _ (fun y0 y1 y2 y3 z => ih y0 y1 y2 y3 _ _ _ z) _ _ _ _ hE
        · rw [if_neg hz14] at hE
          refine xi_iconst (v := (1 : Int32)) hC d_P_isCopied_33 (by decide) ?_
          cases hE
          exact xi_zret hC hr (by decide) hlk d_P_isCopied_34
set_option maxRecDepth 100000 in
set_option maxHeartbeats 4000000 in
theorem s_P_isCopied_0 {p : Program} {l : Launch} {e : Env} {s : State} {m : MethodId} {args : Array Value} {below : List Frame} {meth : Method} {c : Code} {D : va_G} {A : Nat → Prop} {ad0 : Nat → Nat} {n0 : Nat} (hC : XC p s m args c c_P_isCopied 4 y_P_isCopied.cls XTs XCL XNW XAL D A) (hr : meth.sig.returnType = some .boolean) (hlk : meth.locks = false) (hnm : meth.name = y_P_isCopied.name)   (r0 : Nat) (r1 : Nat) (x2 : Int32) (n : Nat) (h : XH) (rr : Int32)  (hE : D_P_isCopied_0  r0 r1 x2 h = some rr) : XW p l e ({ frames := 2, cells := 0, slots := 0, locals := 47 } : Room) s m args below meth c 4 XCL D A ad0 n0 0 0 (MQ below (xQc D XCL n0 ad0 A (some (.int rr)) n h) args s 0 0 A) n h 0 [(0, .ref r0), (1, .ref r1), (2, .int x2)] [] := by
  unfold D_P_isCopied_0 at hE
  refine xi_iconst (v := (1 : Int32)) hC d_P_isCopied_0 (by decide) ?_
  refine xi_istore_n (lv' := [(3, .int (1 : Int32)), (0, .ref r0), (1, .ref r1), (2, .int x2)]) hC d_P_isCopied_1 rfl (by decide) rfl ?_
  refine xi_locs (lv' := [(0, .ref r0), (1, .ref r1), (2, .int x2), (3, .int (1 : Int32))]) [1, 2, 3, 0] rfl ?_
  exact s_P_isCopied_2 hC hr hlk hnm 5000 _ _ _ _ _ _ _ hE
set_option maxRecDepth 100000 in
theorem x_P_isCopied {l : Launch} {D : va_G} {r0 : Nat} {r1 : Nat} {x2 : Int32} {n : Nat} {h : XH} {rr : Int32}  (hE : X_P_isCopied r0 r1 x2 h = some rr) : XMet l y_P_isCopied c_P_isCopied 4 (some .boolean) XTs XCL XNW XAL D ({ frames := 2, cells := 0, slots := 0, locals := 47 } : Room) 0 0 [.ref r0, .ref r1, .int x2] n h (some (.int rr)) n h := by
  refine XMet.mk (by decide) xNW_good xTs_good (Nat.le_of_ble_eq_true rfl) ?_
  intro p e s m args below meth c A ad0 hC hr hlk hnm
  refine xi_locs (lv' := [(0, .ref r0), (1, .ref r1), (2, .int x2)]) [0, 1, 2] rfl ?_
  exact s_P_isCopied_0 hC hr hlk hnm _ _ _ n h _ hE

set_option maxRecDepth 100000 in
set_option maxHeartbeats 4000000 in
theorem s_T_buffer_40 {p : Program} {l : Launch} {e : Env} {s : State} {m : MethodId} {args : Array Value} {below : List Frame} {meth : Method} {c : Code} {D : va_G} {A : Nat → Prop} {ad0 : Nat → Nat} {n0 : Nat} (hC : XC p s m args c c_T_buffer 2 y_T_buffer.cls XTs XCL XNW XAL D A) (hr : meth.sig.returnType = some .int) (hlk : meth.locks = false) (hnm : meth.name = y_T_buffer.name)   (s0 : Int32) (n : Nat) (h : XH) (rr : Int32)  (hE : D_T_buffer_40  s0 h = some rr) : XW p l e ({ frames := 3, cells := 0, slots := 0, locals := 70 } : Room) s m args below meth c 2 XCL D A ad0 n0 0 0 (MQ below (xQc D XCL n0 ad0 A (some (.int rr)) n h) args s 0 0 A) n h 40 [] [.int s0] := by
  unfold D_T_buffer_40 at hE
  cases hE
  exact xi_iret hC hr hlk d_T_buffer_40
set_option maxRecDepth 100000 in
set_option maxHeartbeats 4000000 in
theorem s_T_buffer_0 {p : Program} {l : Launch} {e : Env} {s : State} {m : MethodId} {args : Array Value} {below : List Frame} {meth : Method} {c : Code} {D : va_G} {A : Nat → Prop} {ad0 : Nat → Nat} {n0 : Nat} (hC : XC p s m args c c_T_buffer 2 y_T_buffer.cls XTs XCL XNW XAL D A) (hr : meth.sig.returnType = some .int) (hlk : meth.locks = false) (hnm : meth.name = y_T_buffer.name)   (r0 : Nat) (x1 : Int32) (n : Nat) (h : XH) (rr : Int32)  (hE : D_T_buffer_0  r0 x1 h = some rr) : XW p l e ({ frames := 3, cells := 0, slots := 0, locals := 70 } : Room) s m args below meth c 2 XCL D A ad0 n0 0 0 (MQ below (xQc D XCL n0 ad0 A (some (.int rr)) n h) args s 0 0 A) n h 0 [(0, .ref r0), (1, .int x1)] [] := by
  unfold D_T_buffer_0 at hE
  refine xi_iload_n hC d_T_buffer_0 rfl 1 rfl ?_
  obtain ⟨v1, hE2, hE⟩ := xb1_inv hE
  refine xi_callS (as := [.int x1]) (st := []) hC (x_T_isDatum hE2) xt_101 xt_102 xt_47 xt_100 ⟨by decide, by decide, (by decide +kernel : (parseMethodDescriptor y_T_isDatum.desc).map (fun d => d.parameters.length) = some 1)⟩ rfl rfl ⟨by decide, by decide⟩ ⟨by decide, by decide⟩ (Nat.le_of_ble_eq_true rfl) rfl d_T_buffer_1 ?_
  refine xi_stk (st' := [.int v1]) rfl ?_
  refine xi_if_ne (tgt := 10) hC d_T_buffer_4 (by decide) (fun hz3 => ?_) (fun hz3 => ?_)
  · rw [if_neg hz3] at hE
    refine xi_aload_n hC d_T_buffer_10 rfl 0 rfl ?_
    obtain ⟨o5, hE4, hE⟩ := xb1_inv hE
    refine xi_get (C := R_T) (T := T_T) (N := 6) (ci := 0) (k := 5) hC rfl iws_T (by decide) xt_53 (by decide) (xgQ_inv hE4) d_T_buffer_11 ?_
    cases o5 with
    | none =>
      rw [xq_none] at hE
      refine xi_stk (st' := [.null]) rfl ?_
      refine xi_ifnonnullN hC d_T_buffer_14 ?_
      refine xi_bipush (v := (-3 : Int32)) hC d_T_buffer_17 (by decide) ?_
      cases hE
      exact xi_iret hC hr hlk d_T_buffer_19
    | some q6 =>
      rw [xq_some] at hE
      refine xi_stk (st' := [.ref q6]) rfl ?_
      refine xi_ifnonnull (tgt := 20) hC d_T_buffer_14 (by decide) ?_
      refine xi_aload_n hC d_T_buffer_20 rfl 0 rfl ?_
      obtain ⟨o8, hE7, hE⟩ := xb1_inv hE
      refine xi_get (C := R_T) (T := T_T) (N := 6) (ci := 0) (k := 5) hC rfl iws_T (by decide) xt_53 (by decide) (xgQ_inv hE7) d_T_buffer_21 ?_
      cases o8 with
      | none =>
        rw [xq_none] at hE
        refine xi_stk (st' := [.null]) rfl ?_
        refine xi_aload_n hC d_T_buffer_24 rfl 0 rfl ?_
        obtain ⟨q11, hE10, hE⟩ := xb1_inv hE
        refine xi_get (C := R_T) (T := T_T) (N := 6) (ci := 0) (k := 0) hC rfl iws_T (by decide) xt_27 (by decide) (xgR_inv hE10) d_T_buffer_25 ?_
        refine xi_iload_n hC d_T_buffer_28 rfl 1 rfl ?_
        cases hE
      | some q9 =>
        rw [xq_some] at hE
        refine xi_stk (st' := [.ref q9]) rfl ?_
        refine xi_aload_n hC d_T_buffer_24 rfl 0 rfl ?_
        obtain ⟨q13, hE12, hE⟩ := xb1_inv hE
        refine xi_get (C := R_T) (T := T_T) (N := 6) (ci := 0) (k := 0) hC rfl iws_T (by decide) xt_27 (by decide) (xgR_inv hE12) d_T_buffer_25 ?_
        refine xi_iload_n hC d_T_buffer_28 rfl 1 rfl ?_
        obtain ⟨hI16, hE⟩ := xchk_inv hE
        obtain ⟨v14, hE15, hE⟩ := xb1_inv hE
        refine xi_callV (as := [.ref q13, .int x1]) (st := []) (C := R_P) (T := T_P) (N := 6) hC (x_P_isCopied hE15) rfl (by decide) hI16 xt_170 xt_171 xt_172 xt_38 xt_169 ⟨by decide, by decide, (by decide +kernel : (parseMethodDescriptor y_P_isCopied.desc).map (fun d => d.parameters.length) = some 2)⟩ rfl rfl ⟨by decide, by decide⟩ ⟨by decide, by decide⟩ (Nat.le_of_ble_eq_true rfl) rfl d_T_buffer_29 ?_
        refine xi_stk (st' := [.int v14]) rfl ?_
        refine xi_if_eq (tgt := 39) hC d_T_buffer_32 (by decide) (fun hz17 => ?_) (fun hz17 => ?_)
        · rw [if_pos hz17] at hE
          refine xi_iconst (v := (0 : Int32)) hC d_T_buffer_39 (by decide) ?_
          refine xi_locs (lv' := []) [] rfl ?_
          exact s_T_buffer_40 hC hr hlk hnm _ _ _ _ hE
        · rw [if_neg hz17] at hE
          refine xi_iconst (v := (1 : Int32)) hC d_T_buffer_35 (by decide) ?_
          refine xi_goto (tgt := 40) hC d_T_buffer_36 (by decide) ?_
          refine xi_locs (lv' := []) [] rfl ?_
          exact s_T_buffer_40 hC hr hlk hnm _ _ _ _ hE
  · rw [if_pos hz3] at hE
    refine xi_bipush (v := (-2 : Int32)) hC d_T_buffer_7 (by decide) ?_
    cases hE
    exact xi_iret hC hr hlk d_T_buffer_9
set_option maxRecDepth 100000 in
theorem x_T_buffer {l : Launch} {D : va_G} {r0 : Nat} {x1 : Int32} {n : Nat} {h : XH} {rr : Int32}  (hE : X_T_buffer r0 x1 h = some rr) : XMet l y_T_buffer c_T_buffer 2 (some .int) XTs XCL XNW XAL D ({ frames := 3, cells := 0, slots := 0, locals := 70 } : Room) 0 0 [.ref r0, .int x1] n h (some (.int rr)) n h := by
  refine XMet.mk (by decide) xNW_good xTs_good (Nat.le_of_ble_eq_true rfl) ?_
  intro p e s m args below meth c A ad0 hC hr hlk hnm
  refine xi_locs (lv' := [(0, .ref r0), (1, .int x1)]) [0, 1] rfl ?_
  exact s_T_buffer_0 hC hr hlk hnm _ _ n h _ hE

set_option maxRecDepth 100000 in
set_option maxHeartbeats 4000000 in
theorem s_P_startAt_47 {p : Program} {l : Launch} {e : Env} {s : State} {m : MethodId} {args : Array Value} {below : List Frame} {meth : Method} {c : Code} {D : va_G} {A : Nat → Prop} {ad0 : Nat → Nat} {n0 : Nat} (hC : XC p s m args c c_P_startAt 5 y_P_startAt.cls XTs XCL XNW XAL D A) (hr : meth.sig.returnType = some .int) (hlk : meth.locks = false) (hnm : meth.name = y_P_startAt.name) {k5 : Nat → Int32 → Int32 → Int32 → Int32 → XH → Option (Int32)} (n : Nat) (h : XH) (rr : Int32)  (hk5 : ∀ (r0 : Nat) (x1 : Int32) (x2 : Int32) (x3 : Int32) (x4 : Int32), k5 r0 x1 x2 x3 x4 h = some rr → XW p l e ({ frames := 0, cells := 0, slots := 0, locals := 0 } : Room) s m args below meth c 5 XCL D A ad0 n0 0 0 (MQ below (xQc D XCL n0 ad0 A (some (.int rr)) n h) args s 0 0 A) n h 5 [(0, .ref r0), (1, .int x1), (2, .int x2), (3, .int x3), (4, .int x4)] []) (r0 : Nat) (x1 : Int32) (x2 : Int32) (x3 : Int32) (x4 : Int32)  (hE : D_P_startAt_47 k5 r0 x1 x2 x3 x4 h = some rr) : XW p l e ({ frames := 0, cells := 0, slots := 0, locals := 0 } : Room) s m args below meth c 5 XCL D A ad0 n0 0 0 (MQ below (xQc D XCL n0 ad0 A (some (.int rr)) n h) args s 0 0 A) n h 47 [(0, .ref r0), (1, .int x1), (2, .int x2), (3, .int x3), (4, .int x4)] [] := by
  unfold D_P_startAt_47 at hE
  refine xi_iinc (v := x4 + 1) (lv' := [(4, .int (x4 + 1)), (0, .ref r0), (1, .int x1), (2, .int x2), (3, .int x3)]) hC d_P_startAt_47 4 rfl rfl (by decide) rfl ?_
  refine xi_goto (tgt := 5) hC d_P_startAt_50 (by decide) ?_
  refine xi_locs (lv' := [(0, .ref r0), (1, .int x1), (2, .int x2), (3, .int x3), (4, .int (x4 + 1))]) [1, 2, 3, 4, 0] rfl ?_
  exact hk5 _ _ _ _ _ hE
set_option maxRecDepth 100000 in
set_option maxHeartbeats 4000000 in
theorem s_P_startAt_5 {p : Program} {l : Launch} {e : Env} {s : State} {m : MethodId} {args : Array Value} {below : List Frame} {meth : Method} {c : Code} {D : va_G} {A : Nat → Prop} {ad0 : Nat → Nat} {n0 : Nat} (hC : XC p s m args c c_P_startAt 5 y_P_startAt.cls XTs XCL XNW XAL D A) (hr : meth.sig.returnType = some .int) (hlk : meth.locks = false) (hnm : meth.name = y_P_startAt.name)   : ∀ (f : Nat) (r0 : Nat) (x1 : Int32) (x2 : Int32) (x3 : Int32) (x4 : Int32) (n : Nat) (h : XH) (rr : Int32) , D_P_startAt_5  f r0 x1 x2 x3 x4 h = some rr → XW p l e ({ frames := 0, cells := 0, slots := 0, locals := 0 } : Room) s m args below meth c 5 XCL D A ad0 n0 0 0 (MQ below (xQc D XCL n0 ad0 A (some (.int rr)) n h) args s 0 0 A) n h 5 [(0, .ref r0), (1, .int x1), (2, .int x2), (3, .int x3), (4, .int x4)] [] := by
  intro f
  induction f with
  | zero =>
    intro r0 x1 x2 x3 x4 n h rr hE
    exact absurd hE (by simp [D_P_startAt_5])
  | succ fu ih =>
    intro r0 x1 x2 x3 x4 n h rr hE
    simp only [D_P_startAt_5] at hE
    refine xi_iload hC d_P_startAt_5 4 rfl ?_
    refine xi_aload_n hC d_P_startAt_7 rfl 0 rfl ?_
    obtain ⟨v2, hE1, hE⟩ := xb1_inv hE
    refine xi_get (C := R_P) (T := T_P) (N := 6) (ci := 3) (k := 0) hC rfl iws_P (by decide) xt_116 (by decide) (xgI_inv hE1) d_P_startAt_8 ?_
    refine xi_icmp_gt (tgt := 53) hC d_P_startAt_11 (by decide) (fun hz3 => ?_) (fun hz3 => ?_)
    · rw [if_pos hz3] at hE
      refine xi_iconst (v := (0 : Int32)) hC d_P_startAt_53 (by decide) ?_
      cases hE
      exact xi_iret hC hr hlk d_P_startAt_54
    · rw [if_neg hz3] at hE
      refine xi_aload_n hC d_P_startAt_14 rfl 0 rfl ?_
      obtain ⟨q5, hE4, hE⟩ := xb1_inv hE
      refine xi_get (C := R_P) (T := T_P) (N := 6) (ci := 3) (k := 2) hC rfl iws_P (by decide) xt_16 (by decide) (xgR_inv hE4) d_P_startAt_15 ?_
      refine xi_iload hC d_P_startAt_18 4 rfl ?_
      obtain ⟨v6, hE7, hE⟩ := xb1_inv hE
      refine xi_iald hC hE7 d_P_startAt_20 ?_
      refine xi_if_le (tgt := 47) hC d_P_startAt_21 (by decide) (fun hz8 => ?_) (fun hz8 => ?_)
      · rw [if_pos hz8] at hE
        refine xi_locs (lv' := [(0, .ref r0), (1, .int x1), (2, .int x2), (3, .int x3), (4, .int x4)]) [0, 1, 2, 3, 4] rfl ?_
        exact s_P_startAt_47 hC hr hlk hnm _ _ _ (fun y0 y1 y2 y3 y4 z => ih y0 y1 y2 y3 y4 _ _ _ z) _ _ _ _ _ hE
      · rw [if_neg hz8] at hE
        refine xi_iload_n hC d_P_startAt_24 rfl 1 rfl ?_
        refine xi_aload_n hC d_P_startAt_25 rfl 0 rfl ?_
        obtain ⟨q10, hE9, hE⟩ := xb1_inv hE
        refine xi_get (C := R_P) (T := T_P) (N := 6) (ci := 3) (k := 2) hC rfl iws_P (by decide) xt_16 (by decide) (xgR_inv hE9) d_P_startAt_26 ?_
        refine xi_iload hC d_P_startAt_29 4 rfl ?_
        obtain ⟨v11, hE12, hE⟩ := xb1_inv hE
        refine xi_iald hC hE12 d_P_startAt_31 ?_
        by_cases hz13 : v11 = 0
        · rw [if_pos hz13] at hE; cases hE
        rw [if_neg hz13] at hE
        refine xi_irem hC d_P_startAt_32 hz13 ?_
        refine xi_if_ne (tgt := 47) hC d_P_startAt_33 (by decide) (fun hz14 => ?_) (fun hz14 => ?_)
        · rw [if_neg hz14] at hE
          refine xi_locs (lv' := [(0, .ref r0), (1, .int x1), (2, .int x2), (3, .int x3), (4, .int x4)]) [0, 1, 2, 3, 4] rfl ?_
          exact s_P_startAt_47 hC hr hlk hnm _ _ _ (fun y0 y1 y2 y3 y4 z => ih y0 y1 y2 y3 y4 _ _ _ z) _ _ _ _ _ hE
        · rw [if_pos hz14] at hE
          refine xi_iload_n hC d_P_startAt_36 rfl 3 rfl ?_
          refine xi_iload_n hC d_P_startAt_37 rfl 2 rfl ?_
          refine xi_icmp_ne (tgt := 44) hC d_P_startAt_38 (by decide) (fun hz15 => ?_) (fun hz15 => ?_)
          · rw [if_neg hz15] at hE
            refine xi_iinc (v := x3 + 1) (lv' := [(3, .int (x3 + 1)), (0, .ref r0), (1, .int x1), (2, .int x2), (4, .int x4)]) hC d_P_startAt_44 3 rfl rfl (by decide) rfl ?_
            refine xi_locs (lv' := [(0, .ref r0), (1, .int x1), (2, .int x2), (3, .int (x3 + 1)), (4, .int x4)]) [1, 2, 3, 0, 4] rfl ?_
            exact s_P_startAt_47 hC hr hlk hnm _ _ _ (fun y0 y1 y2 y3 y4 z => ih y0 y1 y2 y3 y4 _ _ _ z) _ _ _ _ _ hE
          · rw [if_pos hz15] at hE
            refine xi_iload hC d_P_startAt_41 4 rfl ?_
            cases hE
            exact xi_iret hC hr hlk d_P_startAt_43
set_option maxRecDepth 100000 in
set_option maxHeartbeats 4000000 in
theorem s_P_startAt_0 {p : Program} {l : Launch} {e : Env} {s : State} {m : MethodId} {args : Array Value} {below : List Frame} {meth : Method} {c : Code} {D : va_G} {A : Nat → Prop} {ad0 : Nat → Nat} {n0 : Nat} (hC : XC p s m args c c_P_startAt 5 y_P_startAt.cls XTs XCL XNW XAL D A) (hr : meth.sig.returnType = some .int) (hlk : meth.locks = false) (hnm : meth.name = y_P_startAt.name)   (r0 : Nat) (x1 : Int32) (x2 : Int32) (n : Nat) (h : XH) (rr : Int32)  (hE : D_P_startAt_0  r0 x1 x2 h = some rr) : XW p l e ({ frames := 0, cells := 0, slots := 0, locals := 0 } : Room) s m args below meth c 5 XCL D A ad0 n0 0 0 (MQ below (xQc D XCL n0 ad0 A (some (.int rr)) n h) args s 0 0 A) n h 0 [(0, .ref r0), (1, .int x1), (2, .int x2)] [] := by
  unfold D_P_startAt_0 at hE
  refine xi_iconst (v := (0 : Int32)) hC d_P_startAt_0 (by decide) ?_
  refine xi_istore_n (lv' := [(3, .int (0 : Int32)), (0, .ref r0), (1, .int x1), (2, .int x2)]) hC d_P_startAt_1 rfl (by decide) rfl ?_
  refine xi_iconst (v := (1 : Int32)) hC d_P_startAt_2 (by decide) ?_
  refine xi_istore (lv' := [(4, .int (1 : Int32)), (3, .int (0 : Int32)), (0, .ref r0), (1, .int x1), (2, .int x2)]) hC d_P_startAt_3 (by decide) rfl ?_
  refine xi_locs (lv' := [(0, .ref r0), (1, .int x1), (2, .int x2), (3, .int (0 : Int32)), (4, .int (1 : Int32))]) [2, 3, 4, 1, 0] rfl ?_
  exact s_P_startAt_5 hC hr hlk hnm 5000 _ _ _ _ _ _ _ _ hE
set_option maxRecDepth 100000 in
theorem x_P_startAt {l : Launch} {D : va_G} {r0 : Nat} {x1 : Int32} {x2 : Int32} {n : Nat} {h : XH} {rr : Int32}  (hE : X_P_startAt r0 x1 x2 h = some rr) : XMet l y_P_startAt c_P_startAt 5 (some .int) XTs XCL XNW XAL D ({ frames := 0, cells := 0, slots := 0, locals := 0 } : Room) 0 0 [.ref r0, .int x1, .int x2] n h (some (.int rr)) n h := by
  refine XMet.mk (by decide) xNW_good xTs_good (Nat.le_of_ble_eq_true rfl) ?_
  intro p e s m args below meth c A ad0 hC hr hlk hnm
  refine xi_locs (lv' := [(0, .ref r0), (1, .int x1), (2, .int x2)]) [0, 1, 2] rfl ?_
  exact s_P_startAt_0 hC hr hlk hnm _ _ _ n h _ hE

set_option maxRecDepth 100000 in
set_option maxHeartbeats 4000000 in
theorem s_T_table_0 {p : Program} {l : Launch} {e : Env} {s : State} {m : MethodId} {args : Array Value} {below : List Frame} {meth : Method} {c : Code} {D : va_G} {A : Nat → Prop} {ad0 : Nat → Nat} {n0 : Nat} (hC : XC p s m args c c_T_table 3 y_T_table.cls XTs XCL XNW XAL D A) (hr : meth.sig.returnType = some .int) (hlk : meth.locks = false) (hnm : meth.name = y_T_table.name)   (r0 : Nat) (x1 : Int32) (x2 : Int32) (n : Nat) (h : XH) (rr : Int32)  (hE : D_T_table_0  r0 x1 x2 h = some rr) : XW p l e ({ frames := 1, cells := 0, slots := 0, locals := 24 } : Room) s m args below meth c 3 XCL D A ad0 n0 0 0 (MQ below (xQc D XCL n0 ad0 A (some (.int rr)) n h) args s 0 0 A) n h 0 [(0, .ref r0), (1, .int x1), (2, .int x2)] [] := by
  unfold D_T_table_0 at hE
  refine xi_iload_n hC d_T_table_0 rfl 1 rfl ?_
  refine xi_if_ge (tgt := 7) hC d_T_table_1 (by decide) (fun hz1 => ?_) (fun hz1 => ?_)
  · rw [if_pos hz1] at hE
    refine xi_aload_n hC d_T_table_7 rfl 0 rfl ?_
    obtain ⟨o3, hE2, hE⟩ := xb1_inv hE
    refine xi_get (C := R_T) (T := T_T) (N := 6) (ci := 0) (k := 5) hC rfl iws_T (by decide) xt_53 (by decide) (xgQ_inv hE2) d_T_table_8 ?_
    cases o3 with
    | none =>
      rw [xq_none] at hE
      refine xi_stk (st' := [.null]) rfl ?_
      refine xi_ifnonnullN hC d_T_table_11 ?_
      refine xi_bipush (v := (-3 : Int32)) hC d_T_table_14 (by decide) ?_
      cases hE
      exact xi_iret hC hr hlk d_T_table_16
    | some q4 =>
      rw [xq_some] at hE
      refine xi_stk (st' := [.ref q4]) rfl ?_
      refine xi_ifnonnull (tgt := 17) hC d_T_table_11 (by decide) ?_
      refine xi_aload_n hC d_T_table_17 rfl 0 rfl ?_
      obtain ⟨o6, hE5, hE⟩ := xb1_inv hE
      refine xi_get (C := R_T) (T := T_T) (N := 6) (ci := 0) (k := 5) hC rfl iws_T (by decide) xt_53 (by decide) (xgQ_inv hE5) d_T_table_18 ?_
      cases o6 with
      | none =>
        rw [xq_none] at hE
        refine xi_stk (st' := [.null]) rfl ?_
        refine xi_iload_n hC d_T_table_21 rfl 1 rfl ?_
        refine xi_iload_n hC d_T_table_22 rfl 2 rfl ?_
        cases hE
      | some q7 =>
        rw [xq_some] at hE
        refine xi_stk (st' := [.ref q7]) rfl ?_
        refine xi_iload_n hC d_T_table_21 rfl 1 rfl ?_
        refine xi_iload_n hC d_T_table_22 rfl 2 rfl ?_
        obtain ⟨hI10, hE⟩ := xchk_inv hE
        obtain ⟨v8, hE9, hE⟩ := xb1_inv hE
        refine xi_callV (as := [.int x1, .int x2]) (st := []) (C := R_P) (T := T_P) (N := 6) hC (x_P_startAt hE9) rfl (by decide) hI10 xt_174 xt_175 xt_176 xt_38 xt_173 ⟨by decide, by decide, (by decide +kernel : (parseMethodDescriptor y_P_startAt.desc).map (fun d => d.parameters.length) = some 2)⟩ rfl rfl ⟨by decide, by decide⟩ ⟨by decide, by decide⟩ (Nat.le_of_ble_eq_true rfl) rfl d_T_table_23 ?_
        refine xi_stk (st' := [.int v8]) rfl ?_
        cases hE
        exact xi_iret hC hr hlk d_T_table_26
  · rw [if_neg hz1] at hE
    refine xi_bipush (v := (-2 : Int32)) hC d_T_table_4 (by decide) ?_
    cases hE
    exact xi_iret hC hr hlk d_T_table_6
set_option maxRecDepth 100000 in
theorem x_T_table {l : Launch} {D : va_G} {r0 : Nat} {x1 : Int32} {x2 : Int32} {n : Nat} {h : XH} {rr : Int32}  (hE : X_T_table r0 x1 x2 h = some rr) : XMet l y_T_table c_T_table 3 (some .int) XTs XCL XNW XAL D ({ frames := 1, cells := 0, slots := 0, locals := 24 } : Room) 0 0 [.ref r0, .int x1, .int x2] n h (some (.int rr)) n h := by
  refine XMet.mk (by decide) xNW_good xTs_good (Nat.le_of_ble_eq_true rfl) ?_
  intro p e s m args below meth c A ad0 hC hr hlk hnm
  refine xi_locs (lv' := [(0, .ref r0), (1, .int x1), (2, .int x2)]) [0, 1, 2] rfl ?_
  exact s_T_table_0 hC hr hlk hnm _ _ _ n h _ hE

set_option maxRecDepth 100000 in
set_option maxHeartbeats 4000000 in
theorem s_G_toldAt_22 {p : Program} {l : Launch} {e : Env} {s : State} {m : MethodId} {args : Array Value} {below : List Frame} {meth : Method} {c : Code} {D : va_G} {A : Nat → Prop} {ad0 : Nat → Nat} {n0 : Nat} (hC : XC p s m args c c_G_toldAt 2 y_G_toldAt.cls XTs XCL XNW XAL D A) (hr : meth.sig.returnType = some .int) (hlk : meth.locks = false) (hnm : meth.name = y_G_toldAt.name)   (s0 : Int32) (n : Nat) (h : XH) (rr : Int32)  (hE : D_G_toldAt_22  s0 h = some rr) : XW p l e ({ frames := 0, cells := 0, slots := 0, locals := 0 } : Room) s m args below meth c 2 XCL D A ad0 n0 0 0 (MQ below (xQc D XCL n0 ad0 A (some (.int rr)) n h) args s 0 0 A) n h 22 [] [.int s0] := by
  unfold D_G_toldAt_22 at hE
  cases hE
  exact xi_iret hC hr hlk d_G_toldAt_22
set_option maxRecDepth 100000 in
set_option maxHeartbeats 4000000 in
theorem s_G_toldAt_21 {p : Program} {l : Launch} {e : Env} {s : State} {m : MethodId} {args : Array Value} {below : List Frame} {meth : Method} {c : Code} {D : va_G} {A : Nat → Prop} {ad0 : Nat → Nat} {n0 : Nat} (hC : XC p s m args c c_G_toldAt 2 y_G_toldAt.cls XTs XCL XNW XAL D A) (hr : meth.sig.returnType = some .int) (hlk : meth.locks = false) (hnm : meth.name = y_G_toldAt.name)    (n : Nat) (h : XH) (rr : Int32)  (hE : D_G_toldAt_21   h = some rr) : XW p l e ({ frames := 0, cells := 0, slots := 0, locals := 0 } : Room) s m args below meth c 2 XCL D A ad0 n0 0 0 (MQ below (xQc D XCL n0 ad0 A (some (.int rr)) n h) args s 0 0 A) n h 21 [] [] := by
  unfold D_G_toldAt_21 at hE
  refine xi_iconst (v := (0 : Int32)) hC d_G_toldAt_21 (by decide) ?_
  refine xi_locs (lv' := []) [] rfl ?_
  exact s_G_toldAt_22 hC hr hlk hnm _ _ _ _ hE
set_option maxRecDepth 100000 in
set_option maxHeartbeats 4000000 in
theorem s_G_toldAt_0 {p : Program} {l : Launch} {e : Env} {s : State} {m : MethodId} {args : Array Value} {below : List Frame} {meth : Method} {c : Code} {D : va_G} {A : Nat → Prop} {ad0 : Nat → Nat} {n0 : Nat} (hC : XC p s m args c c_G_toldAt 2 y_G_toldAt.cls XTs XCL XNW XAL D A) (hr : meth.sig.returnType = some .int) (hlk : meth.locks = false) (hnm : meth.name = y_G_toldAt.name)   (r0 : Nat) (x1 : Int32) (n : Nat) (h : XH) (rr : Int32)  (hE : D_G_toldAt_0  r0 x1 h = some rr) : XW p l e ({ frames := 0, cells := 0, slots := 0, locals := 0 } : Room) s m args below meth c 2 XCL D A ad0 n0 0 0 (MQ below (xQc D XCL n0 ad0 A (some (.int rr)) n h) args s 0 0 A) n h 0 [(0, .ref r0), (1, .int x1)] [] := by
  unfold D_G_toldAt_0 at hE
  refine xi_iload_n hC d_G_toldAt_0 rfl 1 rfl ?_
  refine xi_if_lt (tgt := 21) hC d_G_toldAt_1 (by decide) (fun hz1 => ?_) (fun hz1 => ?_)
  · rw [if_pos hz1] at hE
    refine xi_locs (lv' := []) [] rfl ?_
    exact s_G_toldAt_21 hC hr hlk hnm _ _ _ hE
  · rw [if_neg hz1] at hE
    refine xi_iload_n hC d_G_toldAt_4 rfl 1 rfl ?_
    refine xi_aload_n hC d_G_toldAt_5 rfl 0 rfl ?_
    obtain ⟨v3, hE2, hE⟩ := xb1_inv hE
    refine xi_get (C := R_G) (T := T_G) (N := 5) (ci := 2) (k := 4) hC rfl iws_G (by decide) xt_64 (by decide) (xgI_inv hE2) d_G_toldAt_6 ?_
    refine xi_icmp_ge (tgt := 21) hC d_G_toldAt_9 (by decide) (fun hz4 => ?_) (fun hz4 => ?_)
    · rw [if_pos hz4] at hE
      refine xi_locs (lv' := []) [] rfl ?_
      exact s_G_toldAt_21 hC hr hlk hnm _ _ _ hE
    · rw [if_neg hz4] at hE
      refine xi_aload_n hC d_G_toldAt_12 rfl 0 rfl ?_
      obtain ⟨q6, hE5, hE⟩ := xb1_inv hE
      refine xi_get (C := R_G) (T := T_G) (N := 5) (ci := 2) (k := 3) hC rfl iws_G (by decide) xt_13 (by decide) (xgR_inv hE5) d_G_toldAt_13 ?_
      refine xi_iload_n hC d_G_toldAt_16 rfl 1 rfl ?_
      obtain ⟨v7, hE8, hE⟩ := xb1_inv hE
      refine xi_iald hC hE8 d_G_toldAt_17 ?_
      refine xi_goto (tgt := 22) hC d_G_toldAt_18 (by decide) ?_
      refine xi_locs (lv' := []) [] rfl ?_
      exact s_G_toldAt_22 hC hr hlk hnm _ _ _ _ hE
set_option maxRecDepth 100000 in
theorem x_G_toldAt {l : Launch} {D : va_G} {r0 : Nat} {x1 : Int32} {n : Nat} {h : XH} {rr : Int32}  (hE : X_G_toldAt r0 x1 h = some rr) : XMet l y_G_toldAt c_G_toldAt 2 (some .int) XTs XCL XNW XAL D ({ frames := 0, cells := 0, slots := 0, locals := 0 } : Room) 0 0 [.ref r0, .int x1] n h (some (.int rr)) n h := by
  refine XMet.mk (by decide) xNW_good xTs_good (Nat.le_of_ble_eq_true rfl) ?_
  intro p e s m args below meth c A ad0 hC hr hlk hnm
  refine xi_locs (lv' := [(0, .ref r0), (1, .int x1)]) [0, 1] rfl ?_
  exact s_G_toldAt_0 hC hr hlk hnm _ _ n h _ hE


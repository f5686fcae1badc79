set_option maxRecDepth 100000 in
set_option maxHeartbeats 4000000 in
theorem s_M_addTask_59 {p : Program} {l : Launch} {e : Env} {s : State} {m : MethodId} {args : Array Value} {below : List Frame} {meth : Method} {c : Code} {D : va_G} {A : Nat → Prop} {ad0 : Nat → Nat} {n0 : Nat} (hC : XC p s m args c c_M_addTask 8 y_M_addTask.cls XTs XCL XNW XAL D A) (hr : meth.sig.returnType = none) (hlk : meth.locks = false) (hnm : meth.name = y_M_addTask.name) {k29 : Nat → Int32 → Int32 → Int32 → Int32 → Int32 → XH → Option (XH)} {k37 : Nat → Int32 → Int32 → Int32 → Int32 → Int32 → Int32 → XH → Option (XH)} (n : Nat) (h' : XH) (hk29 : ∀ (r0 : Nat) (x1 : Int32) (x2 : Int32) (x4 : Int32) (x5 : Int32) (x6 : Int32) (h1 : XH), k29 r0 x1 x2 x4 x5 x6 h1 = some h' → XW p l e ({ frames := 1, cells := 0, slots := 0, locals := 24 } : Room) s m args below meth c 8 XCL D A ad0 n0 0 0 (MQ below (xQc D XCL n0 ad0 A none n h') args s 0 0 A) n h1 29 [(0, .ref r0), (1, .int x1), (2, .int x2), (4, .int x4), (5, .int x5), (6, .int x6)] []) (hk37 : ∀ (r0 : Nat) (x1 : Int32) (x2 : Int32) (x4 : Int32) (x5 : Int32) (x6 : Int32) (x7 : Int32) (h1 : XH), k37 r0 x1 x2 x4 x5 x6 x7 h1 = some h' → XW p l e ({ frames := 1, cells := 0, slots := 0, locals := 24 } : Room) s m args below meth c 8 XCL D A ad0 n0 0 0 (MQ below (xQc D XCL n0 ad0 A none n h') args s 0 0 A) n h1 37 [(0, .ref r0), (1, .int x1), (2, .int x2), (4, .int x4), (5, .int x5), (6, .int x6), (7, .int x7)] []) (r0 : Nat) (x1 : Int32) (x2 : Int32) (x4 : Int32) (x5 : Int32) (x6 : Int32) (x7 : Int32) (h : XH)  (hE : D_M_addTask_59 k29 k37 r0 x1 x2 x4 x5 x6 x7 h = some h') : XW p l e ({ frames := 1, cells := 0, slots := 0, locals := 24 } : Room) s m args below meth c 8 XCL D A ad0 n0 0 0 (MQ below (xQc D XCL n0 ad0 A none n h') args s 0 0 A) n h 59 [(0, .ref r0), (1, .int x1), (2, .int x2), (4, .int x4), (5, .int x5), (6, .int x6), (7, .int x7)] [] := by
  unfold D_M_addTask_59 at hE
  refine xi_iinc (v := x7 + 1) (lv' := [(7, .int (x7 + 1)), (0, .ref r0), (1, .int x1), (2, .int x2), (4, .int x4), (5, .int x5), (6, .int x6)]) hC d_M_addTask_59 6 rfl rfl (by decide) rfl ?_
  refine xi_goto (tgt := 37) hC d_M_addTask_62 (by decide) ?_
  refine xi_locs (lv' := [(0, .ref r0), (1, .int x1), (2, .int x2), (4, .int x4), (5, .int x5), (6, .int x6), (7, .int (x7 + 1))]) [1, 2, 3, 4, 5, 6, 0] rfl ?_
  exact hk37 _ _ _ _ _ _ _ _ hE
set_option maxRecDepth 100000 in
set_option maxHeartbeats 4000000 in
theorem s_M_addTask_37 {p : Program} {l : Launch} {e : Env} {s : State} {m : MethodId} {args : Array Value} {below : List Frame} {meth : Method} {c : Code} {D : va_G} {A : Nat → Prop} {ad0 : Nat → Nat} {n0 : Nat} (hC : XC p s m args c c_M_addTask 8 y_M_addTask.cls XTs XCL XNW XAL D A) (hr : meth.sig.returnType = none) (hlk : meth.locks = false) (hnm : meth.name = y_M_addTask.name) {k29 : Nat → Int32 → Int32 → Int32 → Int32 → Int32 → XH → Option (XH)} (n : Nat) (h' : XH) (hk29 : ∀ (r0 : Nat) (x1 : Int32) (x2 : Int32) (x4 : Int32) (x5 : Int32) (x6 : Int32) (h1 : XH), k29 r0 x1 x2 x4 x5 x6 h1 = some h' → XW p l e ({ frames := 1, cells := 0, slots := 0, locals := 24 } : Room) s m args below meth c 8 XCL D A ad0 n0 0 0 (MQ below (xQc D XCL n0 ad0 A none n h') args s 0 0 A) n h1 29 [(0, .ref r0), (1, .int x1), (2, .int x2), (4, .int x4), (5, .int x5), (6, .int x6)] []) : ∀ (f : Nat) (r0 : Nat) (x1 : Int32) (x2 : Int32) (x4 : Int32) (x5 : Int32) (x6 : Int32) (x7 : Int32) (h : XH) , D_M_addTask_37 k29 f r0 x1 x2 x4 x5 x6 x7 h = some h' → XW p l e ({ frames := 1, cells := 0, slots := 0, locals := 24 } : Room) s m args below meth c 8 XCL D A ad0 n0 0 0 (MQ below (xQc D XCL n0 ad0 A none n h') args s 0 0 A) n h 37 [(0, .ref r0), (1, .int x1), (2, .int x2), (4, .int x4), (5, .int x5), (6, .int x6), (7, .int x7)] [] := by
  intro f
  induction f with
  | zero =>
    intro r0 x1 x2 x4 x5 x6 x7 h hE
    exact absurd hE (by simp [D_M_addTask_37])
  | succ fu ih =>
    intro r0 x1 x2 x4 x5 x6 x7 h hE
    simp only [D_M_addTask_37] at hE
    refine xi_iload hC d_M_addTask_37 5 rfl ?_
    refine xi_iload hC d_M_addTask_39 6 rfl ?_
    refine xi_ishr hC d_M_addTask_41 ?_
    refine xi_iconst (v := (1 : Int32)) hC d_M_addTask_42 (by decide) ?_
    refine xi_iand hC d_M_addTask_43 ?_
    refine xi_if_eq (tgt := 59) hC d_M_addTask_44 (by decide) (fun hz1 => ?_) (fun hz1 => ?_)
    · rw [if_pos hz1] at hE
      refine xi_locs (lv' := [(0, .ref r0), (1, .int x1), (2, .int x2), (4, .int x4), (5, .int x5), (6, .int x6), (7, .int x7)]) [0, 1, 2, 3, 4, 5, 6] rfl ?_
      exact s_M_addTask_59 hC hr hlk hnm _ _ hk29 (fun y0 y1 y2 y3 y4 y5 y6 h1 z => ih y0 y1 y2 y3 y4 y5 y6 h1 z) _ _ _ _ _ _ _ _ hE
    · rw [if_neg hz1] at hE
      refine xi_aload_n hC d_M_addTask_47 rfl 0 rfl ?_
      refine xi_iload hC d_M_addTask_48 6 rfl ?_
      obtain ⟨hI4, hE⟩ := xchk_inv hE
      obtain ⟨v2, hE3, hE⟩ := xb1_inv hE
      refine xi_callV (as := [.int x7]) (st := []) (C := R_M) (T := T_M) (N := 19) hC (x_M_behind hE3) rfl (by decide) hI4 xt_239 xt_240 xt_241 xt_218 xt_238 ⟨by decide, by decide, (by decide +kernel : (parseMethodDescriptor y_M_behind.desc).map (fun d => d.parameters.length) = some 1)⟩ rfl rfl ⟨by decide, by decide⟩ ⟨by decide, by decide⟩ (Nat.le_of_ble_eq_true rfl) rfl d_M_addTask_50 ?_
      refine xi_stk (st' := [.int v2]) rfl ?_
      refine xi_iload hC d_M_addTask_53 5 rfl ?_
      refine xi_iand hC d_M_addTask_55 ?_
      refine xi_if_eq (tgt := 65) hC d_M_addTask_56 (by decide) (fun hz5 => ?_) (fun hz5 => ?_)
      · rw [if_pos hz5] at hE
        refine xi_aload_n hC d_M_addTask_65 rfl 0 rfl ?_
        obtain ⟨q7, hE6, hE⟩ := xb1_inv hE
        refine xi_get (C := R_M) (T := T_M) (N := 19) (ci := 4) (k := 17) hC rfl iws_M (by decide) xt_212 (by decide) (xgR_inv hE6) d_M_addTask_66 ?_
        refine xi_iload hC d_M_addTask_69 4 rfl ?_
        refine xi_iload hC d_M_addTask_71 6 rfl ?_
        obtain ⟨h8, hE9, hE⟩ := xb1_inv hE
        refine xi_iast hC hE9 d_M_addTask_73 ?_
        refine xi_iinc (v := x5 + 1) (lv' := [(5, .int (x5 + 1)), (0, .ref r0), (1, .int x1), (2, .int x2), (4, .int x4), (6, .int x6), (7, .int x7)]) hC d_M_addTask_74 4 rfl rfl (by decide) rfl ?_
        refine xi_iload hC d_M_addTask_77 5 rfl ?_
        refine xi_iconst (v := (1 : Int32)) hC d_M_addTask_79 (by decide) ?_
        refine xi_iload hC d_M_addTask_80 6 rfl ?_
        refine xi_ishl hC d_M_addTask_82 ?_
        refine xi_iconst (v := (-1 : Int32)) hC d_M_addTask_83 (by decide) ?_
        refine xi_ixor hC d_M_addTask_84 ?_
        refine xi_iand hC d_M_addTask_85 ?_
        refine xi_istore (lv' := [(6, .int (x6 &&& (((1 : Int32) <<< (x7 &&& 31)) ^^^ (-1 : Int32)))), (5, .int (x5 + 1)), (0, .ref r0), (1, .int x1), (2, .int x2), (4, .int x4), (7, .int x7)]) hC d_M_addTask_86 (by decide) rfl ?_
        refine xi_aload_n hC d_M_addTask_88 rfl 2 rfl ?_
        obtain ⟨q11, hE10, hE⟩ := xb1_inv hE
        refine xi_get (C := R_M) (T := T_M) (N := 19) (ci := 4) (k := 18) hC rfl iws_M (by decide) xt_213 (by decide) (xgR_inv hE10) d_M_addTask_89 ?_
        refine xi_iload hC d_M_addTask_92 6 rfl ?_
        refine xi_iload hC d_M_addTask_94 5 rfl ?_
        refine xi_iconst (v := (1 : Int32)) hC d_M_addTask_96 (by decide) ?_
        refine xi_iadd hC d_M_addTask_97 ?_
        obtain ⟨h12, hE13, hE⟩ := xb1_inv hE
        refine xi_iast hC hE13 d_M_addTask_98 ?_
        refine xi_goto (tgt := 29) hC d_M_addTask_99 (by decide) ?_
        refine xi_locs (lv' := [(0, .ref r0), (1, .int x1), (2, .int x2), (4, .int x4), (5, .int (x5 + 1)), (6, .int (x6 &&& (((1 : Int32) <<< (x7 &&& 31)) ^^^ (-1 : Int32))))]) [2, 3, 4, 5, 1, 0] rfl ?_
        exact hk29 _ _ _ _ _ _ _ hE
      · rw [if_neg hz5] at hE
        refine xi_locs (lv' := [(0, .ref r0), (1, .int x1), (2, .int x2), (4, .int x4), (5, .int x5), (6, .int x6), (7, .int x7)]) [0, 1, 2, 3, 4, 5, 6] rfl ?_
        exact s_M_addTask_59 hC hr hlk hnm _ _ hk29 (fun y0 y1 y2 y3 y4 y5 y6 h1 z => ih y0 y1 y2 y3 y4 y5 y6 h1 z) _ _ _ _ _ _ _ _ hE
set_option maxRecDepth 100000 in
set_option maxHeartbeats 4000000 in
theorem s_M_addTask_29 {p : Program} {l : Launch} {e : Env} {s : State} {m : MethodId} {args : Array Value} {below : List Frame} {meth : Method} {c : Code} {D : va_G} {A : Nat → Prop} {ad0 : Nat → Nat} {n0 : Nat} (hC : XC p s m args c c_M_addTask 8 y_M_addTask.cls XTs XCL XNW XAL D A) (hr : meth.sig.returnType = none) (hlk : meth.locks = false) (hnm : meth.name = y_M_addTask.name)   : ∀ (f : Nat) (r0 : Nat) (x1 : Int32) (x2 : Int32) (x4 : Int32) (x5 : Int32) (x6 : Int32) (n : Nat) (h : XH) (h' : XH), D_M_addTask_29  f r0 x1 x2 x4 x5 x6 h = some h' → XW p l e ({ frames := 1, cells := 0, slots := 0, locals := 24 } : Room) s m args below meth c 8 XCL D A ad0 n0 0 0 (MQ below (xQc D XCL n0 ad0 A none n h') args s 0 0 A) n h 29 [(0, .ref r0), (1, .int x1), (2, .int x2), (4, .int x4), (5, .int x5), (6, .int x6)] [] := by
  intro f
  induction f with
  | zero =>
    intro r0 x1 x2 x4 x5 x6 n h h' hE
    exact absurd hE (by simp [D_M_addTask_29])
  | succ fu ih =>
    intro r0 x1 x2 x4 x5 x6 n h h' hE
    simp only [D_M_addTask_29] at hE
    refine xi_iload hC d_M_addTask_29 5 rfl ?_
    refine xi_if_eq (tgt := 102) hC d_M_addTask_31 (by decide) (fun hz1 => ?_) (fun hz1 => ?_)
    · rw [if_pos hz1] at hE
      refine xi_aload_n hC d_M_addTask_102 rfl 0 rfl ?_
      obtain ⟨q3, hE2, hE⟩ := xb1_inv hE
      refine xi_get (C := R_M) (T := T_M) (N := 19) (ci := 4) (k := 14) hC rfl iws_M (by decide) xt_209 (by decide) (xgR_inv hE2) d_M_addTask_103 ?_
      refine xi_iload hC d_M_addTask_106 3 rfl ?_
      refine xi_iload_n hC d_M_addTask_108 rfl 1 rfl ?_
      obtain ⟨h4, hE5, hE⟩ := xb1_inv hE
      refine xi_iast hC hE5 d_M_addTask_109 ?_
      refine xi_aload_n hC d_M_addTask_110 rfl 0 rfl ?_
      obtain ⟨q7, hE6, hE⟩ := xb1_inv hE
      refine xi_get (C := R_M) (T := T_M) (N := 19) (ci := 4) (k := 15) hC rfl iws_M (by decide) xt_210 (by decide) (xgR_inv hE6) d_M_addTask_111 ?_
      refine xi_iload hC d_M_addTask_114 3 rfl ?_
      refine xi_iload_n hC d_M_addTask_116 rfl 2 rfl ?_
      obtain ⟨h8, hE9, hE⟩ := xb1_inv hE
      refine xi_iast hC hE9 d_M_addTask_117 ?_
      refine xi_aload_n hC d_M_addTask_118 rfl 0 rfl ?_
      obtain ⟨q11, hE10, hE⟩ := xb1_inv hE
      refine xi_get (C := R_M) (T := T_M) (N := 19) (ci := 4) (k := 16) hC rfl iws_M (by decide) xt_211 (by decide) (xgR_inv hE10) d_M_addTask_119 ?_
      refine xi_iload hC d_M_addTask_122 3 rfl ?_
      refine xi_iconst (v := (1 : Int32)) hC d_M_addTask_124 (by decide) ?_
      refine xi_iadd hC d_M_addTask_125 ?_
      refine xi_iload hC d_M_addTask_126 4 rfl ?_
      obtain ⟨h12, hE13, hE⟩ := xb1_inv hE
      refine xi_iast hC hE13 d_M_addTask_128 ?_
      refine xi_aload_n hC d_M_addTask_129 rfl 0 rfl ?_
      obtain ⟨q15, hE14, hE⟩ := xb1_inv hE
      refine xi_get (C := R_M) (T := T_M) (N := 19) (ci := 4) (k := 13) hC rfl iws_M (by decide) xt_208 (by decide) (xgR_inv hE14) d_M_addTask_130 ?_
      refine xi_iconst (v := (0 : Int32)) hC d_M_addTask_133 (by decide) ?_
      refine xi_dup2 hC d_M_addTask_134 rfl rfl ?_
      obtain ⟨v16, hE17, hE⟩ := xb1_inv hE
      refine xi_iald hC hE17 d_M_addTask_135 ?_
      refine xi_iconst (v := (1 : Int32)) hC d_M_addTask_136 (by decide) ?_
      refine xi_iadd hC d_M_addTask_137 ?_
      obtain ⟨h18, hE19, hE⟩ := xb1_inv hE
      refine xi_iast hC hE19 d_M_addTask_138 ?_
      cases hE
      exact xi_vret hC hr hlk d_M_addTask_139
    · rw [if_neg hz1] at hE
      refine xi_iconst (v := (1 : Int32)) hC d_M_addTask_34 (by decide) ?_
      refine xi_istore (lv' := [(7, .int (1 : Int32)), (0, .ref r0), (1, .int x1), (2, .int x2), (4, .int x4), (5, .int x5), (6, .int x6)]) hC d_M_addTask_35 (by decide) rfl ?_
      refine xi_locs (lv' := [(0, .ref r0), (1, .int x1), (2, .int x2), (4, .int x4), (5, .int x5), (6, .int x6), (7, .int (1 : Int32))]) [1, 2, 3, 4, 5, 6, 0] rfl ?_
      exact s_M_addTask_37 hC hr hlk hnm _ _ (fun y0 y1 y2 y3 y4 y5 h1 z => ih y0 y1 y2 y3 y4 y5 _ h1 _ z) 5000 _ _ _ _ _ _ _ _ hE
set_option maxRecDepth 100000 in
set_option maxHeartbeats 4000000 in
theorem s_M_addTask_24 {p : Program} {l : Launch} {e : Env} {s : State} {m : MethodId} {args : Array Value} {below : List Frame} {meth : Method} {c : Code} {D : va_G} {A : Nat → Prop} {ad0 : Nat → Nat} {n0 : Nat} (hC : XC p s m args c c_M_addTask 8 y_M_addTask.cls XTs XCL XNW XAL D A) (hr : meth.sig.returnType = none) (hlk : meth.locks = false) (hnm : meth.name = y_M_addTask.name)   (r0 : Nat) (x1 : Int32) (x2 : Int32) (x3 : Int32) (x4 : Int32) (s0 : Int32) (n : Nat) (h : XH) (h' : XH) (hE : D_M_addTask_24  r0 x1 x2 x3 x4 s0 h = some h') : XW p l e ({ frames := 1, cells := 0, slots := 0, locals := 24 } : Room) s m args below meth c 8 XCL D A ad0 n0 0 0 (MQ below (xQc D XCL n0 ad0 A none n h') args s 0 0 A) n h 24 [(0, .ref r0), (1, .int x1), (2, .int x2), (3, .int x3), (4, .int x4)] [.int s0] := by
  unfold D_M_addTask_24 at hE
  refine xi_istore (lv' := [(5, .int s0), (0, .ref r0), (1, .int x1), (2, .int x2), (3, .int x3), (4, .int x4)]) hC d_M_addTask_24 (by decide) rfl ?_
  refine xi_iload_n hC d_M_addTask_26 rfl 4 rfl ?_
  refine xi_istore (lv' := [(6, .int x3), (5, .int s0), (0, .ref r0), (1, .int x1), (2, .int x2), (3, .int x3), (4, .int x4)]) hC d_M_addTask_27 (by decide) rfl ?_
  refine xi_locs (lv' := [(0, .ref r0), (1, .int x1), (2, .int x2), (4, .int x4), (5, .int s0), (6, .int x3)]) [2, 3, 4, 6, 1, 0] rfl ?_
  exact s_M_addTask_29 hC hr hlk hnm 5000 _ _ _ _ _ _ _ _ _ hE
set_option maxRecDepth 100000 in
set_option maxHeartbeats 4000000 in
theorem s_M_addTask_0 {p : Program} {l : Launch} {e : Env} {s : State} {m : MethodId} {args : Array Value} {below : List Frame} {meth : Method} {c : Code} {D : va_G} {A : Nat → Prop} {ad0 : Nat → Nat} {n0 : Nat} (hC : XC p s m args c c_M_addTask 8 y_M_addTask.cls XTs XCL XNW XAL D A) (hr : meth.sig.returnType = none) (hlk : meth.locks = false) (hnm : meth.name = y_M_addTask.name)   (r0 : Nat) (x1 : Int32) (x2 : Int32) (x3 : Int32) (n : Nat) (h : XH) (h' : XH) (hE : D_M_addTask_0  r0 x1 x2 x3 h = some h') : XW p l e ({ frames := 1, cells := 0, slots := 0, locals := 24 } : Room) s m args below meth c 8 XCL D A ad0 n0 0 0 (MQ below (xQc D XCL n0 ad0 A none n h') args s 0 0 A) n h 0 [(0, .ref r0), (1, .int x1), (2, .int x2), (3, .int x3)] [] := by
  unfold D_M_addTask_0 at hE
  refine xi_aload_n hC d_M_addTask_0 rfl 0 rfl ?_
  obtain ⟨q2, hE1, hE⟩ := xb1_inv hE
  refine xi_get (C := R_M) (T := T_M) (N := 19) (ci := 4) (k := 13) hC rfl iws_M (by decide) xt_208 (by decide) (xgR_inv hE1) d_M_addTask_1 ?_
  refine xi_iconst (v := (0 : Int32)) hC d_M_addTask_4 (by decide) ?_
  obtain ⟨v3, hE4, hE⟩ := xb1_inv hE
  refine xi_iald hC hE4 d_M_addTask_5 ?_
  refine xi_istore (lv' := [(4, .int v3), (0, .ref r0), (1, .int x1), (2, .int x2), (3, .int x3)]) hC d_M_addTask_6 (by decide) rfl ?_
  refine xi_iload hC d_M_addTask_8 0 rfl ?_
  refine xi_if_ne (tgt := 17) hC d_M_addTask_10 (by decide) (fun hz5 => ?_) (fun hz5 => ?_)
  · rw [if_neg hz5] at hE
    refine xi_aload_n hC d_M_addTask_17 rfl 1 rfl ?_
    obtain ⟨q7, hE6, hE⟩ := xb1_inv hE
    refine xi_get (C := R_M) (T := T_M) (N := 19) (ci := 4) (k := 16) hC rfl iws_M (by decide) xt_211 (by decide) (xgR_inv hE6) d_M_addTask_18 ?_
    refine xi_iload hC d_M_addTask_21 0 rfl ?_
    obtain ⟨v8, hE9, hE⟩ := xb1_inv hE
    refine xi_iald hC hE9 d_M_addTask_23 ?_
    refine xi_locs (lv' := [(0, .ref r0), (1, .int x1), (2, .int x2), (3, .int x3), (4, .int v3)]) [1, 2, 3, 4, 0] rfl ?_
    exact s_M_addTask_24 hC hr hlk hnm _ _ _ _ _ _ _ _ _ hE
  · rw [if_pos hz5] at hE
    refine xi_iconst (v := (0 : Int32)) hC d_M_addTask_13 (by decide) ?_
    refine xi_goto (tgt := 24) hC d_M_addTask_14 (by decide) ?_
    refine xi_locs (lv' := [(0, .ref r0), (1, .int x1), (2, .int x2), (3, .int x3), (4, .int v3)]) [1, 2, 3, 4, 0] rfl ?_
    exact s_M_addTask_24 hC hr hlk hnm _ _ _ _ _ _ _ _ _ hE
set_option maxRecDepth 100000 in
theorem x_M_addTask {l : Launch} {D : va_G} {r0 : Nat} {x1 : Int32} {x2 : Int32} {x3 : Int32} {n : Nat} {h : XH} {h' : XH} (hE : X_M_addTask r0 x1 x2 x3 h = some h') : XMet l y_M_addTask c_M_addTask 8 none XTs XCL XNW XAL D ({ frames := 1, cells := 0, slots := 0, locals := 24 } : Room) 0 0 [.ref r0, .int x1, .int x2, .int x3] n h none n h' := by
  refine XMet.mk (by decide) xNW_good xTs_good (Nat.le_of_ble_eq_true rfl) ?_
  intro p e s m args below meth c A ad0 hC hr hlk hnm
  refine xi_locs (lv' := [(0, .ref r0), (1, .int x1), (2, .int x2), (3, .int x3)]) [0, 1, 2, 3] rfl ?_
  exact s_M_addTask_0 hC hr hlk hnm _ _ _ _ n h _ hE

set_option maxRecDepth 100000 in
set_option maxHeartbeats 4000000 in
theorem s_M_with_45 {p : Program} {l : Launch} {e : Env} {s : State} {m : MethodId} {args : Array Value} {below : List Frame} {meth : Method} {c : Code} {D : va_G} {A : Nat → Prop} {ad0 : Nat → Nat} {n0 : Nat} (hC : XC p s m args c c_M_with 5 y_M_with.cls XTs XCL XNW XAL D A) (hr : meth.sig.returnType = some .int) (hlk : meth.locks = false) (hnm : meth.name = y_M_with.name) {k5 : Nat → Int32 → Int32 → Int32 → Int32 → XH → Option (Int32)} (n : Nat) (h : XH) (rr : Int32)  (hk5 : ∀ (r0 : Nat) (x1 : Int32) (x2 : Int32) (x3 : Int32) (x4 : Int32), k5 r0 x1 x2 x3 x4 h = some rr → XW p l e ({ frames := 0, cells := 0, slots := 0, locals := 0 } : Room) s m args below meth c 5 XCL D A ad0 n0 0 0 (MQ below (xQc D XCL n0 ad0 A (some (.int rr)) n h) args s 0 0 A) n h 5 [(0, .ref r0), (1, .int x1), (2, .int x2), (3, .int x3), (4, .int x4)] []) (r0 : Nat) (x1 : Int32) (x2 : Int32) (x4 : Int32) (s0 : Int32) (s1 : Int32)  (hE : D_M_with_45 k5 r0 x1 x2 x4 s0 s1 h = some rr) : XW p l e ({ frames := 0, cells := 0, slots := 0, locals := 0 } : Room) s m args below meth c 5 XCL D A ad0 n0 0 0 (MQ below (xQc D XCL n0 ad0 A (some (.int rr)) n h) args s 0 0 A) n h 45 [(0, .ref r0), (1, .int x1), (2, .int x2), (4, .int x4)] [.int s0, .int s1] := by
  unfold D_M_with_45 at hE
  refine xi_ior hC d_M_with_45 ?_
  refine xi_istore_n (lv' := [(3, .int (s1 ||| s0)), (0, .ref r0), (1, .int x1), (2, .int x2), (4, .int x4)]) hC d_M_with_46 rfl (by decide) rfl ?_
  refine xi_iinc (v := x4 + 1) (lv' := [(4, .int (x4 + 1)), (3, .int (s1 ||| s0)), (0, .ref r0), (1, .int x1), (2, .int x2)]) hC d_M_with_47 4 rfl rfl (by decide) rfl ?_
  refine xi_goto (tgt := 5) hC d_M_with_50 (by decide) ?_
  refine xi_locs (lv' := [(0, .ref r0), (1, .int x1), (2, .int x2), (3, .int (s1 ||| s0)), (4, .int (x4 + 1))]) [2, 3, 4, 1, 0] rfl ?_
  exact hk5 _ _ _ _ _ hE
set_option maxRecDepth 100000 in
set_option maxHeartbeats 4000000 in
theorem s_M_with_44 {p : Program} {l : Launch} {e : Env} {s : State} {m : MethodId} {args : Array Value} {below : List Frame} {meth : Method} {c : Code} {D : va_G} {A : Nat → Prop} {ad0 : Nat → Nat} {n0 : Nat} (hC : XC p s m args c c_M_with 5 y_M_with.cls XTs XCL XNW XAL D A) (hr : meth.sig.returnType = some .int) (hlk : meth.locks = false) (hnm : meth.name = y_M_with.name) {k5 : Nat → Int32 → Int32 → Int32 → Int32 → XH → Option (Int32)} (n : Nat) (h : XH) (rr : Int32)  (hk5 : ∀ (r0 : Nat) (x1 : Int32) (x2 : Int32) (x3 : Int32) (x4 : Int32), k5 r0 x1 x2 x3 x4 h = some rr → XW p l e ({ frames := 0, cells := 0, slots := 0, locals := 0 } : Room) s m args below meth c 5 XCL D A ad0 n0 0 0 (MQ below (xQc D XCL n0 ad0 A (some (.int rr)) n h) args s 0 0 A) n h 5 [(0, .ref r0), (1, .int x1), (2, .int x2), (3, .int x3), (4, .int x4)] []) (r0 : Nat) (x1 : Int32) (x2 : Int32) (x4 : Int32) (s0 : Int32)  (hE : D_M_with_44 k5 r0 x1 x2 x4 s0 h = some rr) : XW p l e ({ frames := 0, cells := 0, slots := 0, locals := 0 } : Room) s m args below meth c 5 XCL D A ad0 n0 0 0 (MQ below (xQc D XCL n0 ad0 A (some (.int rr)) n h) args s 0 0 A) n h 44 [(0, .ref r0), (1, .int x1), (2, .int x2), (4, .int x4)] [.int s0] := by
  unfold D_M_with_44 at hE
  refine xi_iconst (v := (0 : Int32)) hC d_M_with_44 (by decide) ?_
  refine xi_locs (lv' := [(0, .ref r0), (1, .int x1), (2, .int x2), (4, .int x4)]) [0, 1, 2, 3] rfl ?_
  exact s_M_with_45 hC hr hlk hnm _ _ _ hk5 _ _ _ _ _ _ hE
set_option maxRecDepth 100000 in
set_option maxHeartbeats 4000000 in
theorem s_M_with_5 {p : Program} {l : Launch} {e : Env} {s : State} {m : MethodId} {args : Array Value} {below : List Frame} {meth : Method} {c : Code} {D : va_G} {A : Nat → Prop} {ad0 : Nat → Nat} {n0 : Nat} (hC : XC p s m args c c_M_with 5 y_M_with.cls XTs XCL XNW XAL D A) (hr : meth.sig.returnType = some .int) (hlk : meth.locks = false) (hnm : meth.name = y_M_with.name)   : ∀ (f : Nat) (r0 : Nat) (x1 : Int32) (x2 : Int32) (x3 : Int32) (x4 : Int32) (n : Nat) (h : XH) (rr : Int32) , D_M_with_5  f r0 x1 x2 x3 x4 h = some rr → XW p l e ({ frames := 0, cells := 0, slots := 0, locals := 0 } : Room) s m args below meth c 5 XCL D A ad0 n0 0 0 (MQ below (xQc D XCL n0 ad0 A (some (.int rr)) n h) args s 0 0 A) n h 5 [(0, .ref r0), (1, .int x1), (2, .int x2), (3, .int x3), (4, .int x4)] [] := by
  intro f
  induction f with
  | zero =>
    intro r0 x1 x2 x3 x4 n h rr hE
    exact absurd hE (by simp [D_M_with_5])
  | succ fu ih =>
    intro r0 x1 x2 x3 x4 n h rr hE
    simp only [D_M_with_5] at hE
    refine xi_iload hC d_M_with_5 4 rfl ?_
    refine xi_aload_n hC d_M_with_7 rfl 0 rfl ?_
    obtain ⟨v2, hE1, hE⟩ := xb1_inv hE
    refine xi_get (C := R_M) (T := T_M) (N := 19) (ci := 4) (k := 1) hC rfl iws_M (by decide) xt_214 (by decide) (xgI_inv hE1) d_M_with_8 ?_
    refine xi_icmp_gt (tgt := 53) hC d_M_with_11 (by decide) (fun hz3 => ?_) (fun hz3 => ?_)
    · rw [if_pos hz3] at hE
      refine xi_iload_n hC d_M_with_53 rfl 3 rfl ?_
      cases hE
      exact xi_iret hC hr hlk d_M_with_54
    · rw [if_neg hz3] at hE
      refine xi_iload_n hC d_M_with_14 rfl 3 rfl ?_
      refine xi_aload_n hC d_M_with_15 rfl 0 rfl ?_
      obtain ⟨q5, hE4, hE⟩ := xb1_inv hE
      refine xi_get (C := R_M) (T := T_M) (N := 19) (ci := 4) (k := 3) hC rfl iws_M (by decide) xt_201 (by decide) (xgR_inv hE4) d_M_with_16 ?_
      refine xi_iload hC d_M_with_19 4 rfl ?_
      obtain ⟨v6, hE7, hE⟩ := xb1_inv hE
      refine xi_iald hC hE7 d_M_with_21 ?_
      refine xi_iload_n hC d_M_with_22 rfl 1 rfl ?_
      refine xi_icmp_ne (tgt := 44) hC d_M_with_23 (by decide) (fun hz8 => ?_) (fun hz8 => ?_)
      · rw [if_neg hz8] at hE
        refine xi_locs (lv' := [(0, .ref r0), (1, .int x1), (2, .int x2), (4, .int x4)]) [0, 1, 2, 4] rfl ?_
        exact s_M_with_44 hC hr hlk hnm _ _ _ (fun y0 y1 y2 y3 y4 z => ih y0 y1 y2 y3 y4 _ _ _ z) _ _ _ _ _ hE
      · rw [if_pos hz8] at hE
        refine xi_aload_n hC d_M_with_26 rfl 0 rfl ?_
        obtain ⟨q10, hE9, hE⟩ := xb1_inv hE
        refine xi_get (C := R_M) (T := T_M) (N := 19) (ci := 4) (k := 2) hC rfl iws_M (by decide) xt_200 (by decide) (xgR_inv hE9) d_M_with_27 ?_
        refine xi_iload hC d_M_with_30 4 rfl ?_
        obtain ⟨v11, hE12, hE⟩ := xb1_inv hE
        refine xi_iald hC hE12 d_M_with_32 ?_
        refine xi_iload_n hC d_M_with_33 rfl 2 rfl ?_
        refine xi_icmp_ne (tgt := 44) hC d_M_with_34 (by decide) (fun hz13 => ?_) (fun hz13 => ?_)
        · rw [if_neg hz13] at hE
          refine xi_locs (lv' := [(0, .ref r0), (1, .int x1), (2, .int x2), (4, .int x4)]) [0, 1, 2, 4] rfl ?_
          exact s_M_with_44 hC hr hlk hnm _ _ _ (fun y0 y1 y2 y3 y4 z => ih y0 y1 y2 y3 y4 _ _ _ z) _ _ _ _ _ hE
        · rw [if_pos hz13] at hE
          refine xi_iconst (v := (1 : Int32)) hC d_M_with_37 (by decide) ?_
          refine xi_iload hC d_M_with_38 4 rfl ?_
          refine xi_ishl hC d_M_with_40 ?_
          refine xi_goto (tgt := 45) hC d_M_with_41 (by decide) ?_
          refine xi_locs (lv' := [(0, .ref r0), (1, .int x1), (2, .int x2), (4, .int x4)]) [0, 1, 2, 4] rfl ?_
          exact s_M_with_45 hC hr hlk hnm _ _ _ (fun y0 y1 y2 y3 y4 z => ih y0 y1 y2 y3 y4 _ _ _ z) _ _ _ _ _ _ hE
set_option maxRecDepth 100000 in
set_option maxHeartbeats 4000000 in
theorem s_M_with_0 {p : Program} {l : Launch} {e : Env} {s : State} {m : MethodId} {args : Array Value} {below : List Frame} {meth : Method} {c : Code} {D : va_G} {A : Nat → Prop} {ad0 : Nat → Nat} {n0 : Nat} (hC : XC p s m args c c_M_with 5 y_M_with.cls XTs XCL XNW XAL D A) (hr : meth.sig.returnType = some .int) (hlk : meth.locks = false) (hnm : meth.name = y_M_with.name)   (r0 : Nat) (x1 : Int32) (x2 : Int32) (n : Nat) (h : XH) (rr : Int32)  (hE : D_M_with_0  r0 x1 x2 h = some rr) : XW p l e ({ frames := 0, cells := 0, slots := 0, locals := 0 } : Room) s m args below meth c 5 XCL D A ad0 n0 0 0 (MQ below (xQc D XCL n0 ad0 A (some (.int rr)) n h) args s 0 0 A) n h 0 [(0, .ref r0), (1, .int x1), (2, .int x2)] [] := by
  unfold D_M_with_0 at hE
  refine xi_iconst (v := (0 : Int32)) hC d_M_with_0 (by decide) ?_
  refine xi_istore_n (lv' := [(3, .int (0 : Int32)), (0, .ref r0), (1, .int x1), (2, .int x2)]) hC d_M_with_1 rfl (by decide) rfl ?_
  refine xi_iconst (v := (1 : Int32)) hC d_M_with_2 (by decide) ?_
  refine xi_istore (lv' := [(4, .int (1 : Int32)), (3, .int (0 : Int32)), (0, .ref r0), (1, .int x1), (2, .int x2)]) hC d_M_with_3 (by decide) rfl ?_
  refine xi_locs (lv' := [(0, .ref r0), (1, .int x1), (2, .int x2), (3, .int (0 : Int32)), (4, .int (1 : Int32))]) [2, 3, 4, 1, 0] rfl ?_
  exact s_M_with_5 hC hr hlk hnm 5000 _ _ _ _ _ _ _ _ hE
set_option maxRecDepth 100000 in
theorem x_M_with {l : Launch} {D : va_G} {r0 : Nat} {x1 : Int32} {x2 : Int32} {n : Nat} {h : XH} {rr : Int32}  (hE : X_M_with r0 x1 x2 h = some rr) : XMet l y_M_with c_M_with 5 (some .int) XTs XCL XNW XAL D ({ frames := 0, cells := 0, slots := 0, locals := 0 } : Room) 0 0 [.ref r0, .int x1, .int x2] n h (some (.int rr)) n h := by
  refine XMet.mk (by decide) xNW_good xTs_good (Nat.le_of_ble_eq_true rfl) ?_
  intro p e s m args below meth c A ad0 hC hr hlk hnm
  refine xi_locs (lv' := [(0, .ref r0), (1, .int x1), (2, .int x2)]) [0, 1, 2] rfl ?_
  exact s_M_with_0 hC hr hlk hnm _ _ _ n h _ hE

set_option maxRecDepth 100000 in
set_option maxHeartbeats 4000000 in
theorem s_M_tasksOn_103 {p : Program} {l : Launch} {e : Env} {s : State} {m : MethodId} {args : Array Value} {below : List Frame} {meth : Method} {c : Code} {D : va_G} {A : Nat → Prop} {ad0 : Nat → Nat} {n0 : Nat} (hC : XC p s m args c c_M_tasksOn 6 y_M_tasksOn.cls XTs XCL XNW XAL D A) (hr : meth.sig.returnType = some .int) (hlk : meth.locks = false) (hnm : meth.name = y_M_tasksOn.name) {k4 : Nat → Int32 → Int32 → Int32 → XH → Option (Int32)} (n : Nat) (h : XH) (rr : Int32)  (hk4 : ∀ (r0 : Nat) (x1 : Int32) (x2 : Int32) (x3 : Int32), k4 r0 x1 x2 x3 h = some rr → XW p l e ({ frames := 0, cells := 0, slots := 0, locals := 0 } : Room) s m args below meth c 6 XCL D A ad0 n0 0 0 (MQ below (xQc D XCL n0 ad0 A (some (.int rr)) n h) args s 0 0 A) n h 4 [(0, .ref r0), (1, .int x1), (2, .int x2), (3, .int x3)] []) (r0 : Nat) (x1 : Int32) (x3 : Int32) (s0 : Int32) (s1 : Int32)  (hE : D_M_tasksOn_103 k4 r0 x1 x3 s0 s1 h = some rr) : XW p l e ({ frames := 0, cells := 0, slots := 0, locals := 0 } : Room) s m args below meth c 6 XCL D A ad0 n0 0 0 (MQ below (xQc D XCL n0 ad0 A (some (.int rr)) n h) args s 0 0 A) n h 103 [(0, .ref r0), (1, .int x1), (3, .int x3)] [.int s0, .int s1] := by
  unfold D_M_tasksOn_103 at hE
  refine xi_iadd hC d_M_tasksOn_103 ?_
  refine xi_istore_n (lv' := [(2, .int (s1 + s0)), (0, .ref r0), (1, .int x1), (3, .int x3)]) hC d_M_tasksOn_104 rfl (by decide) rfl ?_
  refine xi_iinc (v := x3 + 1) (lv' := [(3, .int (x3 + 1)), (2, .int (s1 + s0)), (0, .ref r0), (1, .int x1)]) hC d_M_tasksOn_105 3 rfl rfl (by decide) rfl ?_
  refine xi_goto (tgt := 4) hC d_M_tasksOn_108 (by decide) ?_
  refine xi_locs (lv' := [(0, .ref r0), (1, .int x1), (2, .int (s1 + s0)), (3, .int (x3 + 1))]) [2, 3, 1, 0] rfl ?_
  exact hk4 _ _ _ _ hE
set_option maxRecDepth 100000 in
set_option maxHeartbeats 4000000 in
theorem s_M_tasksOn_84 {p : Program} {l : Launch} {e : Env} {s : State} {m : MethodId} {args : Array Value} {below : List Frame} {meth : Method} {c : Code} {D : va_G} {A : Nat → Prop} {ad0 : Nat → Nat} {n0 : Nat} (hC : XC p s m args c c_M_tasksOn 6 y_M_tasksOn.cls XTs XCL XNW XAL D A) (hr : meth.sig.returnType = some .int) (hlk : meth.locks = false) (hnm : meth.name = y_M_tasksOn.name) {k4 : Nat → Int32 → Int32 → Int32 → XH → Option (Int32)} {k32 : Nat → Int32 → Int32 → Int32 → Int32 → Int32 → XH → Option (Int32)} (n : Nat) (h : XH) (rr : Int32)  (hk4 : ∀ (r0 : Nat) (x1 : Int32) (x2 : Int32) (x3 : Int32), k4 r0 x1 x2 x3 h = some rr → XW p l e ({ frames := 0, cells := 0, slots := 0, locals := 0 } : Room) s m args below meth c 6 XCL D A ad0 n0 0 0 (MQ below (xQc D XCL n0 ad0 A (some (.int rr)) n h) args s 0 0 A) n h 4 [(0, .ref r0), (1, .int x1), (2, .int x2), (3, .int x3)] []) (hk32 : ∀ (r0 : Nat) (x1 : Int32) (x2 : Int32) (x3 : Int32) (x4 : Int32) (x5 : Int32), k32 r0 x1 x2 x3 x4 x5 h = some rr → XW p l e ({ frames := 0, cells := 0, slots := 0, locals := 0 } : Room) s m args below meth c 6 XCL D A ad0 n0 0 0 (MQ below (xQc D XCL n0 ad0 A (some (.int rr)) n h) args s 0 0 A) n h 32 [(0, .ref r0), (1, .int x1), (2, .int x2), (3, .int x3), (4, .int x4), (5, .int x5)] []) (r0 : Nat) (x1 : Int32) (x2 : Int32) (x3 : Int32) (x5 : Int32) (s0 : Int32)  (hE : D_M_tasksOn_84 k4 k32 r0 x1 x2 x3 x5 s0 h = some rr) : XW p l e ({ frames := 0, cells := 0, slots := 0, locals := 0 } : Room) s m args below meth c 6 XCL D A ad0 n0 0 0 (MQ below (xQc D XCL n0 ad0 A (some (.int rr)) n h) args s 0 0 A) n h 84 [(0, .ref r0), (1, .int x1), (2, .int x2), (3, .int x3), (5, .int x5)] [.int s0] := by
  unfold D_M_tasksOn_84 at hE
  refine xi_istore (lv' := [(4, .int s0), (0, .ref r0), (1, .int x1), (2, .int x2), (3, .int x3), (5, .int x5)]) hC d_M_tasksOn_84 (by decide) rfl ?_
  refine xi_iinc (v := x5 + 1) (lv' := [(5, .int (x5 + 1)), (4, .int s0), (0, .ref r0), (1, .int x1), (2, .int x2), (3, .int x3)]) hC d_M_tasksOn_86 5 rfl rfl (by decide) rfl ?_
  refine xi_goto (tgt := 32) hC d_M_tasksOn_89 (by decide) ?_
  refine xi_locs (lv' := [(0, .ref r0), (1, .int x1), (2, .int x2), (3, .int x3), (4, .int s0), (5, .int (x5 + 1))]) [2, 3, 4, 5, 1, 0] rfl ?_
  exact hk32 _ _ _ _ _ _ hE
set_option maxRecDepth 100000 in
set_option maxHeartbeats 4000000 in
theorem s_M_tasksOn_83 {p : Program} {l : Launch} {e : Env} {s : State} {m : MethodId} {args : Array Value} {below : List Frame} {meth : Method} {c : Code} {D : va_G} {A : Nat → Prop} {ad0 : Nat → Nat} {n0 : Nat} (hC : XC p s m args c c_M_tasksOn 6 y_M_tasksOn.cls XTs XCL XNW XAL D A) (hr : meth.sig.returnType = some .int) (hlk : meth.locks = false) (hnm : meth.name = y_M_tasksOn.name) {k4 : Nat → Int32 → Int32 → Int32 → XH → Option (Int32)} {k32 : Nat → Int32 → Int32 → Int32 → Int32 → Int32 → XH → Option (Int32)} (n : Nat) (h : XH) (rr : Int32)  (hk4 : ∀ (r0 : Nat) (x1 : Int32) (x2 : Int32) (x3 : Int32), k4 r0 x1 x2 x3 h = some rr → XW p l e ({ frames := 0, cells := 0, slots := 0, locals := 0 } : Room) s m args below meth c 6 XCL D A ad0 n0 0 0 (MQ below (xQc D XCL n0 ad0 A (some (.int rr)) n h) args s 0 0 A) n h 4 [(0, .ref r0), (1, .int x1), (2, .int x2), (3, .int x3)] []) (hk32 : ∀ (r0 : Nat) (x1 : Int32) (x2 : Int32) (x3 : Int32) (x4 : Int32) (x5 : Int32), k32 r0 x1 x2 x3 x4 x5 h = some rr → XW p l e ({ frames := 0, cells := 0, slots := 0, locals := 0 } : Room) s m args below meth c 6 XCL D A ad0 n0 0 0 (MQ below (xQc D XCL n0 ad0 A (some (.int rr)) n h) args s 0 0 A) n h 32 [(0, .ref r0), (1, .int x1), (2, .int x2), (3, .int x3), (4, .int x4), (5, .int x5)] []) (r0 : Nat) (x1 : Int32) (x2 : Int32) (x3 : Int32) (x5 : Int32)  (hE : D_M_tasksOn_83 k4 k32 r0 x1 x2 x3 x5 h = some rr) : XW p l e ({ frames := 0, cells := 0, slots := 0, locals := 0 } : Room) s m args below meth c 6 XCL D A ad0 n0 0 0 (MQ below (xQc D XCL n0 ad0 A (some (.int rr)) n h) args s 0 0 A) n h 83 [(0, .ref r0), (1, .int x1), (2, .int x2), (3, .int x3), (5, .int x5)] [] := by
  unfold D_M_tasksOn_83 at hE
  refine xi_iconst (v := (0 : Int32)) hC d_M_tasksOn_83 (by decide) ?_
  refine xi_locs (lv' := [(0, .ref r0), (1, .int x1), (2, .int x2), (3, .int x3), (5, .int x5)]) [0, 1, 2, 3, 4] rfl ?_
  exact s_M_tasksOn_84 hC hr hlk hnm _ _ _ hk4 hk32 _ _ _ _ _ _ hE
set_option maxRecDepth 100000 in
set_option maxHeartbeats 4000000 in
theorem s_M_tasksOn_79 {p : Program} {l : Launch} {e : Env} {s : State} {m : MethodId} {args : Array Value} {below : List Frame} {meth : Method} {c : Code} {D : va_G} {A : Nat → Prop} {ad0 : Nat → Nat} {n0 : Nat} (hC : XC p s m args c c_M_tasksOn 6 y_M_tasksOn.cls XTs XCL XNW XAL D A) (hr : meth.sig.returnType = some .int) (hlk : meth.locks = false) (hnm : meth.name = y_M_tasksOn.name) {k4 : Nat → Int32 → Int32 → Int32 → XH → Option (Int32)} {k32 : Nat → Int32 → Int32 → Int32 → Int32 → Int32 → XH → Option (Int32)} (n : Nat) (h : XH) (rr : Int32)  (hk4 : ∀ (r0 : Nat) (x1 : Int32) (x2 : Int32) (x3 : Int32), k4 r0 x1 x2 x3 h = some rr → XW p l e ({ frames := 0, cells := 0, slots := 0, locals := 0 } : Room) s m args below meth c 6 XCL D A ad0 n0 0 0 (MQ below (xQc D XCL n0 ad0 A (some (.int rr)) n h) args s 0 0 A) n h 4 [(0, .ref r0), (1, .int x1), (2, .int x2), (3, .int x3)] []) (hk32 : ∀ (r0 : Nat) (x1 : Int32) (x2 : Int32) (x3 : Int32) (x4 : Int32) (x5 : Int32), k32 r0 x1 x2 x3 x4 x5 h = some rr → XW p l e ({ frames := 0, cells := 0, slots := 0, locals := 0 } : Room) s m args below meth c 6 XCL D A ad0 n0 0 0 (MQ below (xQc D XCL n0 ad0 A (some (.int rr)) n h) args s 0 0 A) n h 32 [(0, .ref r0), (1, .int x1), (2, .int x2), (3, .int x3), (4, .int x4), (5, .int x5)] []) (r0 : Nat) (x1 : Int32) (x2 : Int32) (x3 : Int32) (x5 : Int32)  (hE : D_M_tasksOn_79 k4 k32 r0 x1 x2 x3 x5 h = some rr) : XW p l e ({ frames := 0, cells := 0, slots := 0, locals := 0 } : Room) s m args below meth c 6 XCL D A ad0 n0 0 0 (MQ below (xQc D XCL n0 ad0 A (some (.int rr)) n h) args s 0 0 A) n h 79 [(0, .ref r0), (1, .int x1), (2, .int x2), (3, .int x3), (5, .int x5)] [] := by
  unfold D_M_tasksOn_79 at hE
  refine xi_iconst (v := (1 : Int32)) hC d_M_tasksOn_79 (by decide) ?_
  refine xi_goto (tgt := 84) hC d_M_tasksOn_80 (by decide) ?_
  refine xi_locs (lv' := [(0, .ref r0), (1, .int x1), (2, .int x2), (3, .int x3), (5, .int x5)]) [0, 1, 2, 3, 4] rfl ?_
  exact s_M_tasksOn_84 hC hr hlk hnm _ _ _ hk4 hk32 _ _ _ _ _ _ hE
set_option maxRecDepth 100000 in
set_option maxHeartbeats 4000000 in
theorem s_M_tasksOn_32 {p : Program} {l : Launch} {e : Env} {s : State} {m : MethodId} {args : Array Value} {below : List Frame} {meth : Method} {c : Code} {D : va_G} {A : Nat → Prop} {ad0 : Nat → Nat} {n0 : Nat} (hC : XC p s m args c c_M_tasksOn 6 y_M_tasksOn.cls XTs XCL XNW XAL D A) (hr : meth.sig.returnType = some .int) (hlk : meth.locks = false) (hnm : meth.name = y_M_tasksOn.name) {k4 : Nat → Int32 → Int32 → Int32 → XH → Option (Int32)} (n : Nat) (h : XH) (rr : Int32)  (hk4 : ∀ (r0 : Nat) (x1 : Int32) (x2 : Int32) (x3 : Int32), k4 r0 x1 x2 x3 h = some rr → XW p l e ({ frames := 0, cells := 0, slots := 0, locals := 0 } : Room) s m args below meth c 6 XCL D A ad0 n0 0 0 (MQ below (xQc D XCL n0 ad0 A (some (.int rr)) n h) args s 0 0 A) n h 4 [(0, .ref r0), (1, .int x1), (2, .int x2), (3, .int x3)] []) : ∀ (f : Nat) (r0 : Nat) (x1 : Int32) (x2 : Int32) (x3 : Int32) (x4 : Int32) (x5 : Int32) , D_M_tasksOn_32 k4 f r0 x1 x2 x3 x4 x5 h = some rr → XW p l e ({ frames := 0, cells := 0, slots := 0, locals := 0 } : Room) s m args below meth c 6 XCL D A ad0 n0 0 0 (MQ below (xQc D XCL n0 ad0 A (some (.int rr)) n h) args s 0 0 A) n h 32 [(0, .ref r0), (1, .int x1), (2, .int x2), (3, .int x3), (4, .int x4), (5, .int x5)] [] := by
  intro f
  induction f with
  | zero =>
    intro r0 x1 x2 x3 x4 x5  hE
    exact absurd hE (by simp [D_M_tasksOn_32])
  | succ fu ih =>
    intro r0 x1 x2 x3 x4 x5  hE
    simp only [D_M_tasksOn_32] at hE
    refine xi_iload hC d_M_tasksOn_32 5 rfl ?_
    refine xi_iload_n hC d_M_tasksOn_34 rfl 3 rfl ?_
    refine xi_icmp_ge (tgt := 92) hC d_M_tasksOn_35 (by decide) (fun hz1 => ?_) (fun hz1 => ?_)
    · rw [if_pos hz1] at hE
      refine xi_iload_n hC d_M_tasksOn_92 rfl 2 rfl ?_
      refine xi_iload hC d_M_tasksOn_93 4 rfl ?_
      refine xi_if_eq (tgt := 102) hC d_M_tasksOn_95 (by decide) (fun hz2 => ?_) (fun hz2 => ?_)
      · rw [if_pos hz2] at hE
        refine xi_iconst (v := (0 : Int32)) hC d_M_tasksOn_102 (by decide) ?_
        refine xi_locs (lv' := [(0, .ref r0), (1, .int x1), (3, .int x3)]) [0, 1, 3] rfl ?_
        exact s_M_tasksOn_103 hC hr hlk hnm _ _ _ hk4 _ _ _ _ _ hE
      · rw [if_neg hz2] at hE
        refine xi_iconst (v := (1 : Int32)) hC d_M_tasksOn_98 (by decide) ?_
        refine xi_goto (tgt := 103) hC d_M_tasksOn_99 (by decide) ?_
        refine xi_locs (lv' := [(0, .ref r0), (1, .int x1), (3, .int x3)]) [0, 1, 3] rfl ?_
        exact s_M_tasksOn_103 hC hr hlk hnm _ _ _ hk4 _ _ _ _ _ hE
    · rw [if_neg hz1] at hE
      refine xi_iload hC d_M_tasksOn_38 4 rfl ?_
      refine xi_if_eq (tgt := 83) hC d_M_tasksOn_40 (by decide) (fun hz3 => ?_) (fun hz3 => ?_)
      · rw [if_pos hz3] at hE
        refine xi_locs (lv' := [(0, .ref r0), (1, .int x1), (2, .int x2), (3, .int x3), (5, .int x5)]) [0, 1, 2, 3, 5] rfl ?_
        exact s_M_tasksOn_83 hC hr hlk hnm _ _ _ hk4 (fun y0 y1 y2 y3 y4 y5 z => ih y0 y1 y2 y3 y4 y5 z) _ _ _ _ _ hE
      · rw [if_neg hz3] at hE
        refine xi_aload_n hC d_M_tasksOn_43 rfl 0 rfl ?_
        obtain ⟨q5, hE4, hE⟩ := xb1_inv hE
        refine xi_get (C := R_M) (T := T_M) (N := 19) (ci := 4) (k := 2) hC rfl iws_M (by decide) xt_200 (by decide) (xgR_inv hE4) d_M_tasksOn_44 ?_
        refine xi_iload_n hC d_M_tasksOn_47 rfl 3 rfl ?_
        obtain ⟨v6, hE7, hE⟩ := xb1_inv hE
        refine xi_iald hC hE7 d_M_tasksOn_48 ?_
        refine xi_if_eq (tgt := 79) hC d_M_tasksOn_49 (by decide) (fun hz8 => ?_) (fun hz8 => ?_)
        · rw [if_pos hz8] at hE
          refine xi_locs (lv' := [(0, .ref r0), (1, .int x1), (2, .int x2), (3, .int x3), (5, .int x5)]) [0, 1, 2, 3, 5] rfl ?_
          exact s_M_tasksOn_79 hC hr hlk hnm _ _ _ hk4 (fun y0 y1 y2 y3 y4 y5 z => ih y0 y1 y2 y3 y4 y5 z) _ _ _ _ _ hE
        · rw [if_neg hz8] at hE
          refine xi_aload_n hC d_M_tasksOn_52 rfl 0 rfl ?_
          obtain ⟨q10, hE9, hE⟩ := xb1_inv hE
          refine xi_get (C := R_M) (T := T_M) (N := 19) (ci := 4) (k := 3) hC rfl iws_M (by decide) xt_201 (by decide) (xgR_inv hE9) d_M_tasksOn_53 ?_
          refine xi_iload hC d_M_tasksOn_56 5 rfl ?_
          obtain ⟨v11, hE12, hE⟩ := xb1_inv hE
          refine xi_iald hC hE12 d_M_tasksOn_58 ?_
          refine xi_iload_n hC d_M_tasksOn_59 rfl 1 rfl ?_
          refine xi_icmp_ne (tgt := 79) hC d_M_tasksOn_60 (by decide) (fun hz13 => ?_) (fun hz13 => ?_)
          · rw [if_neg hz13] at hE
            refine xi_locs (lv' := [(0, .ref r0), (1, .int x1), (2, .int x2), (3, .int x3), (5, .int x5)]) [0, 1, 2, 3, 5] rfl ?_
            exact s_M_tasksOn_79 hC hr hlk hnm _ _ _ hk4 (fun y0 y1 y2 y3 y4 y5 z => ih y0 y1 y2 y3 y4 y5 z) _ _ _ _ _ hE
          · rw [if_pos hz13] at hE
            refine xi_aload_n hC d_M_tasksOn_63 rfl 0 rfl ?_
            obtain ⟨q15, hE14, hE⟩ := xb1_inv hE
            refine xi_get (C := R_M) (T := T_M) (N := 19) (ci := 4) (k := 2) hC rfl iws_M (by decide) xt_200 (by decide) (xgR_inv hE14) d_M_tasksOn_64 ?_
            refine xi_iload hC d_M_tasksOn_67 5 rfl ?_
            obtain ⟨v16, hE17, hE⟩ := xb1_inv hE
            refine xi_iald hC hE17 d_M_tasksOn_69 ?_
            refine xi_aload_n hC d_M_tasksOn_70 rfl 0 rfl ?_
            obtain ⟨q19, hE18, hE⟩ := xb1_inv hE
            refine xi_get (C := R_M) (T := T_M) (N := 19) (ci := 4) (k := 2) hC rfl iws_M (by decide) xt_200 (by decide) (xgR_inv hE18) d_M_tasksOn_71 ?_
            refine xi_iload_n hC d_M_tasksOn_74 rfl 3 rfl ?_
            obtain ⟨v20, hE21, hE⟩ := xb1_inv hE
            refine xi_iald hC hE21 d_M_tasksOn_75 ?_
            refine xi_icmp_eq (tgt := 83) hC d_M_tasksOn_76 (by decide) (fun hz22 => ?_) (fun hz22 => ?_)
            · rw [if_pos hz22] at hE
              refine xi_locs (lv' := [(0, .ref r0), (1, .int x1), (2, .int x2), (3, .int x3), (5, .int x5)]) [0, 1, 2, 3, 5] rfl ?_
              exact s_M_tasksOn_83 hC hr hlk hnm _ _ _ hk4 (fun y0 y1 y2 y3 y4 y5 z => ih y0 y1 y2 y3 y4 y5 z) _ _ _ _ _ hE
            · rw [if_neg hz22] at hE
              refine xi_locs (lv' := [(0, .ref r0), (1, .int x1), (2, .int x2), (3, .int x3), (5, .int x5)]) [0, 1, 2, 3, 5] rfl ?_
              exact s_M_tasksOn_79 hC hr hlk hnm _ _ _ hk4 (fun y0 y1 y2 y3 y4 y5 z => ih y0 y1 y2 y3 y4 y5 z) _ _ _ _ _ hE
set_option maxRecDepth 100000 in
set_option maxHeartbeats 4000000 in
theorem s_M_tasksOn_27 {p : Program} {l : Launch} {e : Env} {s : State} {m : MethodId} {args : Array Value} {below : List Frame} {meth : Method} {c : Code} {D : va_G} {A : Nat → Prop} {ad0 : Nat → Nat} {n0 : Nat} (hC : XC p s m args c c_M_tasksOn 6 y_M_tasksOn.cls XTs XCL XNW XAL D A) (hr : meth.sig.returnType = some .int) (hlk : meth.locks = false) (hnm : meth.name = y_M_tasksOn.name) {k4 : Nat → Int32 → Int32 → Int32 → XH → Option (Int32)} (n : Nat) (h : XH) (rr : Int32)  (hk4 : ∀ (r0 : Nat) (x1 : Int32) (x2 : Int32) (x3 : Int32), k4 r0 x1 x2 x3 h = some rr → XW p l e ({ frames := 0, cells := 0, slots := 0, locals := 0 } : Room) s m args below meth c 6 XCL D A ad0 n0 0 0 (MQ below (xQc D XCL n0 ad0 A (some (.int rr)) n h) args s 0 0 A) n h 4 [(0, .ref r0), (1, .int x1), (2, .int x2), (3, .int x3)] []) (r0 : Nat) (x1 : Int32) (x2 : Int32) (x3 : Int32) (s0 : Int32)  (hE : D_M_tasksOn_27 k4 r0 x1 x2 x3 s0 h = some rr) : XW p l e ({ frames := 0, cells := 0, slots := 0, locals := 0 } : Room) s m args below meth c 6 XCL D A ad0 n0 0 0 (MQ below (xQc D XCL n0 ad0 A (some (.int rr)) n h) args s 0 0 A) n h 27 [(0, .ref r0), (1, .int x1), (2, .int x2), (3, .int x3)] [.int s0] := by
  unfold D_M_tasksOn_27 at hE
  refine xi_istore (lv' := [(4, .int s0), (0, .ref r0), (1, .int x1), (2, .int x2), (3, .int x3)]) hC d_M_tasksOn_27 (by decide) rfl ?_
  refine xi_iconst (v := (1 : Int32)) hC d_M_tasksOn_29 (by decide) ?_
  refine xi_istore (lv' := [(5, .int (1 : Int32)), (4, .int s0), (0, .ref r0), (1, .int x1), (2, .int x2), (3, .int x3)]) hC d_M_tasksOn_30 (by decide) rfl ?_
  refine xi_locs (lv' := [(0, .ref r0), (1, .int x1), (2, .int x2), (3, .int x3), (4, .int s0), (5, .int (1 : Int32))]) [2, 3, 4, 5, 1, 0] rfl ?_
  exact s_M_tasksOn_32 hC hr hlk hnm _ _ _ hk4 5000 _ _ _ _ _ _ hE
set_option maxRecDepth 100000 in
set_option maxHeartbeats 4000000 in
theorem s_M_tasksOn_4 {p : Program} {l : Launch} {e : Env} {s : State} {m : MethodId} {args : Array Value} {below : List Frame} {meth : Method} {c : Code} {D : va_G} {A : Nat → Prop} {ad0 : Nat → Nat} {n0 : Nat} (hC : XC p s m args c c_M_tasksOn 6 y_M_tasksOn.cls XTs XCL XNW XAL D A) (hr : meth.sig.returnType = some .int) (hlk : meth.locks = false) (hnm : meth.name = y_M_tasksOn.name)   : ∀ (f : Nat) (r0 : Nat) (x1 : Int32) (x2 : Int32) (x3 : Int32) (n : Nat) (h : XH) (rr : Int32) , D_M_tasksOn_4  f r0 x1 x2 x3 h = some rr → XW p l e ({ frames := 0, cells := 0, slots := 0, locals := 0 } : Room) s m args below meth c 6 XCL D A ad0 n0 0 0 (MQ below (xQc D XCL n0 ad0 A (some (.int rr)) n h) args s 0 0 A) n h 4 [(0, .ref r0), (1, .int x1), (2, .int x2), (3, .int x3)] [] := by
  intro f
  induction f with
  | zero =>
    intro r0 x1 x2 x3 n h rr hE
    exact absurd hE (by simp [D_M_tasksOn_4])
  | succ fu ih =>
    intro r0 x1 x2 x3 n h rr hE
    simp only [D_M_tasksOn_4] at hE
    refine xi_iload_n hC d_M_tasksOn_4 rfl 3 rfl ?_
    refine xi_aload_n hC d_M_tasksOn_5 rfl 0 rfl ?_
    obtain ⟨v2, hE1, hE⟩ := xb1_inv hE
    refine xi_get (C := R_M) (T := T_M) (N := 19) (ci := 4) (k := 1) hC rfl iws_M (by decide) xt_214 (by decide) (xgI_inv hE1) d_M_tasksOn_6 ?_
    refine xi_icmp_gt (tgt := 111) hC d_M_tasksOn_9 (by decide) (fun hz3 => ?_) (fun hz3 => ?_)
    · rw [if_pos hz3] at hE
      refine xi_iload_n hC d_M_tasksOn_111 rfl 2 rfl ?_
      cases hE
      exact xi_iret hC hr hlk d_M_tasksOn_112
    · rw [if_neg hz3] at hE
      refine xi_aload_n hC d_M_tasksOn_12 rfl 0 rfl ?_
      obtain ⟨q5, hE4, hE⟩ := xb1_inv hE
      refine xi_get (C := R_M) (T := T_M) (N := 19) (ci := 4) (k := 3) hC rfl iws_M (by decide) xt_201 (by decide) (xgR_inv hE4) d_M_tasksOn_13 ?_
      refine xi_iload_n hC d_M_tasksOn_16 rfl 3 rfl ?_
      obtain ⟨v6, hE7, hE⟩ := xb1_inv hE
      refine xi_iald hC hE7 d_M_tasksOn_17 ?_
      refine xi_iload_n hC d_M_tasksOn_18 rfl 1 rfl ?_
      refine xi_icmp_ne (tgt := 26) hC d_M_tasksOn_19 (by decide) (fun hz8 => ?_) (fun hz8 => ?_)
      · rw [if_neg hz8] at hE
        refine xi_iconst (v := (0 : Int32)) hC d_M_tasksOn_26 (by decide) ?_
        refine xi_locs (lv' := [(0, .ref r0), (1, .int x1), (2, .int x2), (3, .int x3)]) [0, 1, 2, 3] rfl ?_
        exact s_M_tasksOn_27 hC hr hlk hnm _ _ _ (fun y0 y1 y2 y3 z => ih y0 y1 y2 y3 _ _ _ z) _ _ _ _ _ hE
      · rw [if_pos hz8] at hE
        refine xi_iconst (v := (1 : Int32)) hC d_M_tasksOn_22 (by decide) ?_
        refine xi_goto (tgt := 27) hC d_M_tasksOn_23 (by decide) ?_
        refine xi_locs (lv' := [(0, .ref r0), (1, .int x1), (2, .int x2), (3, .int x3)]) [0, 1, 2, 3] rfl ?_
        exact s_M_tasksOn_27 hC hr hlk hnm _ _ _ (fun y0 y1 y2 y3 z => ih y0 y1 y2 y3 _ _ _ z) _ _ _ _ _ hE
set_option maxRecDepth 100000 in
set_option maxHeartbeats 4000000 in
theorem s_M_tasksOn_0 {p : Program} {l : Launch} {e : Env} {s : State} {m : MethodId} {args : Array Value} {below : List Frame} {meth : Method} {c : Code} {D : va_G} {A : Nat → Prop} {ad0 : Nat → Nat} {n0 : Nat} (hC : XC p s m args c c_M_tasksOn 6 y_M_tasksOn.cls XTs XCL XNW XAL D A) (hr : meth.sig.returnType = some .int) (hlk : meth.locks = false) (hnm : meth.name = y_M_tasksOn.name)   (r0 : Nat) (x1 : Int32) (n : Nat) (h : XH) (rr : Int32)  (hE : D_M_tasksOn_0  r0 x1 h = some rr) : XW p l e ({ frames := 0, cells := 0, slots := 0, locals := 0 } : Room) s m args below meth c 6 XCL D A ad0 n0 0 0 (MQ below (xQc D XCL n0 ad0 A (some (.int rr)) n h) args s 0 0 A) n h 0 [(0, .ref r0), (1, .int x1)] [] := by
  unfold D_M_tasksOn_0 at hE
  refine xi_iconst (v := (0 : Int32)) hC d_M_tasksOn_0 (by decide) ?_
  refine xi_istore_n (lv' := [(2, .int (0 : Int32)), (0, .ref r0), (1, .int x1)]) hC d_M_tasksOn_1 rfl (by decide) rfl ?_
  refine xi_iconst (v := (1 : Int32)) hC d_M_tasksOn_2 (by decide) ?_
  refine xi_istore_n (lv' := [(3, .int (1 : Int32)), (2, .int (0 : Int32)), (0, .ref r0), (1, .int x1)]) hC d_M_tasksOn_3 rfl (by decide) rfl ?_
  refine xi_locs (lv' := [(0, .ref r0), (1, .int x1), (2, .int (0 : Int32)), (3, .int (1 : Int32))]) [2, 3, 1, 0] rfl ?_
  exact s_M_tasksOn_4 hC hr hlk hnm 5000 _ _ _ _ _ _ _ hE
set_option maxRecDepth 100000 in
theorem x_M_tasksOn {l : Launch} {D : va_G} {r0 : Nat} {x1 : Int32} {n : Nat} {h : XH} {rr : Int32}  (hE : X_M_tasksOn r0 x1 h = some rr) : XMet l y_M_tasksOn c_M_tasksOn 6 (some .int) XTs XCL XNW XAL D ({ frames := 0, cells := 0, slots := 0, locals := 0 } : Room) 0 0 [.ref r0, .int x1] n h (some (.int rr)) n h := by
  refine XMet.mk (by decide) xNW_good xTs_good (Nat.le_of_ble_eq_true rfl) ?_
  intro p e s m args below meth c A ad0 hC hr hlk hnm
  refine xi_locs (lv' := [(0, .ref r0), (1, .int x1)]) [0, 1] rfl ?_
  exact s_M_tasksOn_0 hC hr hlk hnm _ _ n h _ hE

set_option maxRecDepth 100000 in
set_option maxHeartbeats 4000000 in
theorem s_M_makeTasks_71 {p : Program} {l : Launch} {e : Env} {s : State} {m : MethodId} {args : Array Value} {below : List Frame} {meth : Method} {c : Code} {D : va_G} {A : Nat → Prop} {ad0 : Nat → Nat} {n0 : Nat} (hC : XC p s m args c c_M_makeTasks 4 y_M_makeTasks.cls XTs XCL XNW XAL D A) (hr : meth.sig.returnType = none) (hlk : meth.locks = false) (hnm : meth.name = y_M_makeTasks.name) {k46 : Nat → Int32 → Int32 → XH → Option (XH)} (n : Nat) (h' : XH) (hk46 : ∀ (r0 : Nat) (x1 : Int32) (x2 : Int32) (h1 : XH), k46 r0 x1 x2 h1 = some h' → XW p l e ({ frames := 2, cells := 0, slots := 0, locals := 51 } : Room) s m args below meth c 4 XCL D A ad0 n0 0 0 (MQ below (xQc D XCL n0 ad0 A none n h') args s 0 0 A) n h1 46 [(0, .ref r0), (1, .int x1), (2, .int x2)] []) (r0 : Nat) (x1 : Int32) (x2 : Int32) (h : XH)  (hE : D_M_makeTasks_71 k46 r0 x1 x2 h = some h') : XW p l e ({ frames := 2, cells := 0, slots := 0, locals := 51 } : Room) s m args below meth c 4 XCL D A ad0 n0 0 0 (MQ below (xQc D XCL n0 ad0 A none n h') args s 0 0 A) n h 71 [(0, .ref r0), (1, .int x1), (2, .int x2)] [] := by
  unfold D_M_makeTasks_71 at hE
  refine xi_iinc (v := x2 + 1) (lv' := [(2, .int (x2 + 1)), (0, .ref r0), (1, .int x1)]) hC d_M_makeTasks_71 2 rfl rfl (by decide) rfl ?_
  refine xi_goto (tgt := 46) hC d_M_makeTasks_74 (by decide) ?_
  refine xi_locs (lv' := [(0, .ref r0), (1, .int x1), (2, .int (x2 + 1))]) [1, 2, 0] rfl ?_
  exact hk46 _ _ _ _ hE
set_option maxRecDepth 100000 in
set_option maxHeartbeats 4000000 in
theorem s_M_makeTasks_46 {p : Program} {l : Launch} {e : Env} {s : State} {m : MethodId} {args : Array Value} {below : List Frame} {meth : Method} {c : Code} {D : va_G} {A : Nat → Prop} {ad0 : Nat → Nat} {n0 : Nat} (hC : XC p s m args c c_M_makeTasks 4 y_M_makeTasks.cls XTs XCL XNW XAL D A) (hr : meth.sig.returnType = none) (hlk : meth.locks = false) (hnm : meth.name = y_M_makeTasks.name)   : ∀ (f : Nat) (r0 : Nat) (x1 : Int32) (x2 : Int32) (n : Nat) (h : XH) (h' : XH), D_M_makeTasks_46  f r0 x1 x2 h = some h' → XW p l e ({ frames := 2, cells := 0, slots := 0, locals := 51 } : Room) s m args below meth c 4 XCL D A ad0 n0 0 0 (MQ below (xQc D XCL n0 ad0 A none n h') args s 0 0 A) n h 46 [(0, .ref r0), (1, .int x1), (2, .int x2)] [] := by
  intro f
  induction f with
  | zero =>
    intro r0 x1 x2 n h h' hE
    exact absurd hE (by simp [D_M_makeTasks_46])
  | succ fu ih =>
    intro r0 x1 x2 n h h' hE
    simp only [D_M_makeTasks_46] at hE
    refine xi_iload_n hC d_M_makeTasks_46 rfl 2 rfl ?_
    refine xi_sipush (v := (1000 : Int32)) hC d_M_makeTasks_47 (by decide) ?_
    refine xi_icmp_gt (tgt := 77) hC d_M_makeTasks_50 (by decide) (fun hz1 => ?_) (fun hz1 => ?_)
    · rw [if_pos hz1] at hE
      cases hE
      exact xi_vret hC hr hlk d_M_makeTasks_77
    · rw [if_neg hz1] at hE
      refine xi_aload_n hC d_M_makeTasks_53 rfl 0 rfl ?_
      refine xi_iload_n hC d_M_makeTasks_54 rfl 1 rfl ?_
      refine xi_iload_n hC d_M_makeTasks_55 rfl 2 rfl ?_
      obtain ⟨hI4, hE⟩ := xchk_inv hE
      obtain ⟨v2, hE3, hE⟩ := xb1_inv hE
      refine xi_callV (as := [.int x1, .int x2]) (st := []) (C := R_M) (T := T_M) (N := 19) hC (x_M_with hE3) rfl (by decide) hI4 xt_243 xt_244 xt_245 xt_218 xt_242 ⟨by decide, by decide, (by decide +kernel : (parseMethodDescriptor y_M_with.desc).map (fun d => d.parameters.length) = some 2)⟩ rfl rfl ⟨by decide, by decide⟩ ⟨by decide, by decide⟩ (Nat.le_of_ble_eq_true rfl) rfl d_M_makeTasks_56 ?_
      refine xi_stk (st' := [.int v2]) rfl ?_
      refine xi_istore_n (lv' := [(3, .int v2), (0, .ref r0), (1, .int x1), (2, .int x2)]) hC d_M_makeTasks_59 rfl (by decide) rfl ?_
      refine xi_iload_n hC d_M_makeTasks_60 rfl 0 rfl ?_
      refine xi_if_eq (tgt := 71) hC d_M_makeTasks_61 (by decide) (fun hz5 => ?_) (fun hz5 => ?_)
      · rw [if_pos hz5] at hE
        refine xi_locs (lv' := [(0, .ref r0), (1, .int x1), (2, .int x2)]) [1, 2, 3] rfl ?_
        exact s_M_makeTasks_71 hC hr hlk hnm _ _ (fun y0 y1 y2 h1 z => ih y0 y1 y2 _ h1 _ z) _ _ _ _ hE
      · rw [if_neg hz5] at hE
        refine xi_aload_n hC d_M_makeTasks_64 rfl 1 rfl ?_
        refine xi_iload_n hC d_M_makeTasks_65 rfl 2 rfl ?_
        refine xi_iload_n hC d_M_makeTasks_66 rfl 3 rfl ?_
        refine xi_iload_n hC d_M_makeTasks_67 rfl 0 rfl ?_
        obtain ⟨hI8, hE⟩ := xchk_inv hE
        obtain ⟨h6, hE7, hE⟩ := xb1_inv hE
        refine xi_callV (as := [.int x1, .int x2, .int v2]) (st := []) (C := R_M) (T := T_M) (N := 19) hC (x_M_addTask hE7) rfl (by decide) hI8 xt_247 xt_248 xt_249 xt_218 xt_246 ⟨by decide, by decide, (by decide +kernel : (parseMethodDescriptor y_M_addTask.desc).map (fun d => d.parameters.length) = some 3)⟩ rfl rfl ⟨by decide, by decide⟩ ⟨by decide, by decide⟩ (Nat.le_of_ble_eq_true rfl) rfl d_M_makeTasks_68 ?_
        refine xi_stk (st' := []) rfl ?_
        refine xi_locs (lv' := [(0, .ref r0), (1, .int x1), (2, .int x2)]) [1, 2, 3] rfl ?_
        exact s_M_makeTasks_71 hC hr hlk hnm _ _ (fun y0 y1 y2 h1 z => ih y0 y1 y2 _ h1 _ z) _ _ _ _ hE
set_option maxRecDepth 100000 in
set_option maxHeartbeats 4000000 in
theorem s_M_makeTasks_38 {p : Program} {l : Launch} {e : Env} {s : State} {m : MethodId} {args : Array Value} {below : List Frame} {meth : Method} {c : Code} {D : va_G} {A : Nat → Prop} {ad0 : Nat → Nat} {n0 : Nat} (hC : XC p s m args c c_M_makeTasks 4 y_M_makeTasks.cls XTs XCL XNW XAL D A) (hr : meth.sig.returnType = none) (hlk : meth.locks = false) (hnm : meth.name = y_M_makeTasks.name) {k2 : Nat → Int32 → Int32 → XH → Option (XH)} (n : Nat) (h' : XH) (hk2 : ∀ (r0 : Nat) (x1 : Int32) (x2 : Int32) (h1 : XH), k2 r0 x1 x2 h1 = some h' → XW p l e ({ frames := 2, cells := 0, slots := 0, locals := 51 } : Room) s m args below meth c 4 XCL D A ad0 n0 0 0 (MQ below (xQc D XCL n0 ad0 A none n h') args s 0 0 A) n h1 2 [(0, .ref r0), (1, .int x1), (2, .int x2)] []) (r0 : Nat) (x1 : Int32) (x2 : Int32) (h : XH)  (hE : D_M_makeTasks_38 k2 r0 x1 x2 h = some h') : XW p l e ({ frames := 2, cells := 0, slots := 0, locals := 51 } : Room) s m args below meth c 4 XCL D A ad0 n0 0 0 (MQ below (xQc D XCL n0 ad0 A none n h') args s 0 0 A) n h 38 [(0, .ref r0), (1, .int x1), (2, .int x2)] [] := by
  unfold D_M_makeTasks_38 at hE
  refine xi_iinc (v := x2 + 1) (lv' := [(2, .int (x2 + 1)), (0, .ref r0), (1, .int x1)]) hC d_M_makeTasks_38 2 rfl rfl (by decide) rfl ?_
  refine xi_goto (tgt := 2) hC d_M_makeTasks_41 (by decide) ?_
  refine xi_locs (lv' := [(0, .ref r0), (1, .int x1), (2, .int (x2 + 1))]) [1, 2, 0] rfl ?_
  exact hk2 _ _ _ _ hE
set_option maxRecDepth 100000 in
set_option maxHeartbeats 4000000 in
theorem s_M_makeTasks_2 {p : Program} {l : Launch} {e : Env} {s : State} {m : MethodId} {args : Array Value} {below : List Frame} {meth : Method} {c : Code} {D : va_G} {A : Nat → Prop} {ad0 : Nat → Nat} {n0 : Nat} (hC : XC p s m args c c_M_makeTasks 4 y_M_makeTasks.cls XTs XCL XNW XAL D A) (hr : meth.sig.returnType = none) (hlk : meth.locks = false) (hnm : meth.name = y_M_makeTasks.name)   : ∀ (f : Nat) (r0 : Nat) (x1 : Int32) (x2 : Int32) (n : Nat) (h : XH) (h' : XH), D_M_makeTasks_2  f r0 x1 x2 h = some h' → XW p l e ({ frames := 2, cells := 0, slots := 0, locals := 51 } : Room) s m args below meth c 4 XCL D A ad0 n0 0 0 (MQ below (xQc D XCL n0 ad0 A none n h') args s 0 0 A) n h 2 [(0, .ref r0), (1, .int x1), (2, .int x2)] [] := by
  intro f
  induction f with
  | zero =>
    intro r0 x1 x2 n h h' hE
    exact absurd hE (by simp [D_M_makeTasks_2])
  | succ fu ih =>
    intro r0 x1 x2 n h h' hE
    simp only [D_M_makeTasks_2] at hE
    refine xi_iload_n hC d_M_makeTasks_2 rfl 2 rfl ?_
    refine xi_aload_n hC d_M_makeTasks_3 rfl 0 rfl ?_
    obtain ⟨v2, hE1, hE⟩ := xb1_inv hE
    refine xi_get (C := R_M) (T := T_M) (N := 19) (ci := 4) (k := 1) hC rfl iws_M (by decide) xt_214 (by decide) (xgI_inv hE1) d_M_makeTasks_4 ?_
    refine xi_icmp_gt (tgt := 44) hC d_M_makeTasks_7 (by decide) (fun hz3 => ?_) (fun hz3 => ?_)
    · rw [if_pos hz3] at hE
      refine xi_iconst (v := (1 : Int32)) hC d_M_makeTasks_44 (by decide) ?_
      refine xi_istore_n (lv' := [(2, .int (1 : Int32)), (0, .ref r0), (1, .int x1)]) hC d_M_makeTasks_45 rfl (by decide) rfl ?_
      refine xi_locs (lv' := [(0, .ref r0), (1, .int x1), (2, .int (1 : Int32))]) [1, 2, 0] rfl ?_
      exact s_M_makeTasks_46 hC hr hlk hnm 5000 _ _ _ _ _ _ hE
    · rw [if_neg hz3] at hE
      refine xi_aload_n hC d_M_makeTasks_10 rfl 0 rfl ?_
      obtain ⟨q5, hE4, hE⟩ := xb1_inv hE
      refine xi_get (C := R_M) (T := T_M) (N := 19) (ci := 4) (k := 3) hC rfl iws_M (by decide) xt_201 (by decide) (xgR_inv hE4) d_M_makeTasks_11 ?_
      refine xi_iload_n hC d_M_makeTasks_14 rfl 2 rfl ?_
      obtain ⟨v6, hE7, hE⟩ := xb1_inv hE
      refine xi_iald hC hE7 d_M_makeTasks_15 ?_
      refine xi_iload_n hC d_M_makeTasks_16 rfl 1 rfl ?_
      refine xi_icmp_ne (tgt := 38) hC d_M_makeTasks_17 (by decide) (fun hz8 => ?_) (fun hz8 => ?_)
      · rw [if_neg hz8] at hE
        refine xi_locs (lv' := [(0, .ref r0), (1, .int x1), (2, .int x2)]) [0, 1, 2] rfl ?_
        exact s_M_makeTasks_38 hC hr hlk hnm _ _ (fun y0 y1 y2 h1 z => ih y0 y1 y2 _ h1 _ z) _ _ _ _ hE
      · rw [if_pos hz8] at hE
        refine xi_aload_n hC d_M_makeTasks_20 rfl 0 rfl ?_
        obtain ⟨q10, hE9, hE⟩ := xb1_inv hE
        refine xi_get (C := R_M) (T := T_M) (N := 19) (ci := 4) (k := 2) hC rfl iws_M (by decide) xt_200 (by decide) (xgR_inv hE9) d_M_makeTasks_21 ?_
        refine xi_iload_n hC d_M_makeTasks_24 rfl 2 rfl ?_
        obtain ⟨v11, hE12, hE⟩ := xb1_inv hE
        refine xi_iald hC hE12 d_M_makeTasks_25 ?_
        refine xi_if_ne (tgt := 38) hC d_M_makeTasks_26 (by decide) (fun hz13 => ?_) (fun hz13 => ?_)
        · rw [if_neg hz13] at hE
          refine xi_locs (lv' := [(0, .ref r0), (1, .int x1), (2, .int x2)]) [0, 1, 2] rfl ?_
          exact s_M_makeTasks_38 hC hr hlk hnm _ _ (fun y0 y1 y2 h1 z => ih y0 y1 y2 _ h1 _ z) _ _ _ _ hE
        · rw [if_pos hz13] at hE
          refine xi_aload_n hC d_M_makeTasks_29 rfl 0 rfl ?_
          refine xi_iload_n hC d_M_makeTasks_30 rfl 1 rfl ?_
          refine xi_iconst (v := (0 : Int32)) hC d_M_makeTasks_31 (by decide) ?_
          refine xi_iconst (v := (1 : Int32)) hC d_M_makeTasks_32 (by decide) ?_
          refine xi_iload_n hC d_M_makeTasks_33 rfl 2 rfl ?_
          refine xi_ishl hC d_M_makeTasks_34 ?_
          obtain ⟨hI16, hE⟩ := xchk_inv hE
          obtain ⟨h14, hE15, hE⟩ := xb1_inv hE
          refine xi_callV (as := [.int x1, .int (0 : Int32), .int ((1 : Int32) <<< (x2 &&& 31))]) (st := []) (C := R_M) (T := T_M) (N := 19) hC (x_M_addTask hE15) rfl (by decide) hI16 xt_247 xt_248 xt_249 xt_218 xt_246 ⟨by decide, by decide, (by decide +kernel : (parseMethodDescriptor y_M_addTask.desc).map (fun d => d.parameters.length) = some 3)⟩ rfl rfl ⟨by decide, by decide⟩ ⟨by decide, by decide⟩ (Nat.le_of_ble_eq_true rfl) rfl d_M_makeTasks_35 ?_
          refine xi_stk (st' := []) rfl ?_
          refine xi_locs (lv' := [(0, .ref r0), (1, .int x1), (2, .int x2)]) [0, 1, 2] rfl ?_
          exact s_M_makeTasks_38 hC hr hlk hnm _ _ (fun y0 y1 y2 h1 z => ih y0 y1 y2 _ h1 _ z) _ _ _ _ hE
set_option maxRecDepth 100000 in
set_option maxHeartbeats 4000000 in
theorem s_M_makeTasks_0 {p : Program} {l : Launch} {e : Env} {s : State} {m : MethodId} {args : Array Value} {below : List Frame} {meth : Method} {c : Code} {D : va_G} {A : Nat → Prop} {ad0 : Nat → Nat} {n0 : Nat} (hC : XC p s m args c c_M_makeTasks 4 y_M_makeTasks.cls XTs XCL XNW XAL D A) (hr : meth.sig.returnType = none) (hlk : meth.locks = false) (hnm : meth.name = y_M_makeTasks.name)   (r0 : Nat) (x1 : Int32) (n : Nat) (h : XH) (h' : XH) (hE : D_M_makeTasks_0  r0 x1 h = some h') : XW p l e ({ frames := 2, cells := 0, slots := 0, locals := 51 } : Room) s m args below meth c 4 XCL D A ad0 n0 0 0 (MQ below (xQc D XCL n0 ad0 A none n h') args s 0 0 A) n h 0 [(0, .ref r0), (1, .int x1)] [] := by
  unfold D_M_makeTasks_0 at hE
  refine xi_iconst (v := (1 : Int32)) hC d_M_makeTasks_0 (by decide) ?_
  refine xi_istore_n (lv' := [(2, .int (1 : Int32)), (0, .ref r0), (1, .int x1)]) hC d_M_makeTasks_1 rfl (by decide) rfl ?_
  refine xi_locs (lv' := [(0, .ref r0), (1, .int x1), (2, .int (1 : Int32))]) [1, 2, 0] rfl ?_
  exact s_M_makeTasks_2 hC hr hlk hnm 5000 _ _ _ _ _ _ hE
set_option maxRecDepth 100000 in
theorem x_M_makeTasks {l : Launch} {D : va_G} {r0 : Nat} {x1 : Int32} {n : Nat} {h : XH} {h' : XH} (hE : X_M_makeTasks r0 x1 h = some h') : XMet l y_M_makeTasks c_M_makeTasks 4 none XTs XCL XNW XAL D ({ frames := 2, cells := 0, slots := 0, locals := 51 } : Room) 0 0 [.ref r0, .int x1] n h none n h' := by
  refine XMet.mk (by decide) xNW_good xTs_good (Nat.le_of_ble_eq_true rfl) ?_
  intro p e s m args below meth c A ad0 hC hr hlk hnm
  refine xi_locs (lv' := [(0, .ref r0), (1, .int x1)]) [0, 1] rfl ?_
  exact s_M_makeTasks_0 hC hr hlk hnm _ _ n h _ hE

set_option maxRecDepth 100000 in
set_option maxHeartbeats 4000000 in
theorem s_M_keep_79 {p : Program} {l : Launch} {e : Env} {s : State} {m : MethodId} {args : Array Value} {below : List Frame} {meth : Method} {c : Code} {D : va_G} {A : Nat → Prop} {ad0 : Nat → Nat} {n0 : Nat} (hC : XC p s m args c c_M_keep 3 y_M_keep.cls XTs XCL XNW XAL D A) (hr : meth.sig.returnType = none) (hlk : meth.locks = false) (hnm : meth.name = y_M_keep.name)   : ∀ (f : Nat) (r0 : Nat) (x1 : Int32) (x2 : Int32) (n : Nat) (h : XH) (h' : XH), D_M_keep_79  f r0 x1 x2 h = some h' → XW p l e ({ frames := 0, cells := 0, slots := 0, locals := 0 } : Room) s m args below meth c 3 XCL D A ad0 n0 0 0 (MQ below (xQc D XCL n0 ad0 A none n h') args s 0 0 A) n h 79 [(0, .ref r0), (1, .int x1), (2, .int x2)] [] := by
  intro f
  induction f with
  | zero =>
    intro r0 x1 x2 n h h' hE
    exact absurd hE (by simp [D_M_keep_79])
  | succ fu ih =>
    intro r0 x1 x2 n h h' hE
    simp only [D_M_keep_79] at hE
    refine xi_iload_n hC d_M_keep_79 rfl 2 rfl ?_
    refine xi_bipush (v := (25 : Int32)) hC d_M_keep_80 (by decide) ?_
    refine xi_icmp_ge (tgt := 108) hC d_M_keep_82 (by decide) (fun hz1 => ?_) (fun hz1 => ?_)
    · rw [if_pos hz1] at hE
      cases hE
      exact xi_vret hC hr hlk d_M_keep_108
    · rw [if_neg hz1] at hE
      refine xi_aload_n hC d_M_keep_85 rfl 0 rfl ?_
      obtain ⟨q3, hE2, hE⟩ := xb1_inv hE
      refine xi_get (C := R_M) (T := T_M) (N := 19) (ci := 4) (k := 16) hC rfl iws_M (by decide) xt_211 (by decide) (xgR_inv hE2) d_M_keep_86 ?_
      refine xi_bipush (v := (25 : Int32)) hC d_M_keep_89 (by decide) ?_
      refine xi_iload_n hC d_M_keep_91 rfl 1 rfl ?_
      refine xi_imul hC d_M_keep_92 ?_
      refine xi_iload_n hC d_M_keep_93 rfl 2 rfl ?_
      refine xi_iadd hC d_M_keep_94 ?_
      refine xi_aload_n hC d_M_keep_95 rfl 0 rfl ?_
      obtain ⟨q5, hE4, hE⟩ := xb1_inv hE
      refine xi_get (C := R_M) (T := T_M) (N := 19) (ci := 4) (k := 16) hC rfl iws_M (by decide) xt_211 (by decide) (xgR_inv hE4) d_M_keep_96 ?_
      refine xi_iload_n hC d_M_keep_99 rfl 2 rfl ?_
      obtain ⟨v6, hE7, hE⟩ := xb1_inv hE
      refine xi_iald hC hE7 d_M_keep_100 ?_
      obtain ⟨h8, hE9, hE⟩ := xb1_inv hE
      refine xi_iast hC hE9 d_M_keep_101 ?_
      refine xi_iinc (v := x2 + 1) (lv' := [(2, .int (x2 + 1)), (0, .ref r0), (1, .int x1)]) hC d_M_keep_102 2 rfl rfl (by decide) rfl ?_
      refine xi_goto (tgt := 79) hC d_M_keep_105 (by decide) ?_
      refine xi_locs (lv' := [(0, .ref r0), (1, .int x1), (2, .int (x2 + 1))]) [1, 2, 0] rfl ?_
      exact ih _ _ _ _ _ _ hE
set_option maxRecDepth 100000 in
set_option maxHeartbeats 4000000 in
theorem s_M_keep_14 {p : Program} {l : Launch} {e : Env} {s : State} {m : MethodId} {args : Array Value} {below : List Frame} {meth : Method} {c : Code} {D : va_G} {A : Nat → Prop} {ad0 : Nat → Nat} {n0 : Nat} (hC : XC p s m args c c_M_keep 3 y_M_keep.cls XTs XCL XNW XAL D A) (hr : meth.sig.returnType = none) (hlk : meth.locks = false) (hnm : meth.name = y_M_keep.name)   : ∀ (f : Nat) (r0 : Nat) (x1 : Int32) (x2 : Int32) (n : Nat) (h : XH) (h' : XH), D_M_keep_14  f r0 x1 x2 h = some h' → XW p l e ({ frames := 0, cells := 0, slots := 0, locals := 0 } : Room) s m args below meth c 3 XCL D A ad0 n0 0 0 (MQ below (xQc D XCL n0 ad0 A none n h') args s 0 0 A) n h 14 [(0, .ref r0), (1, .int x1), (2, .int x2)] [] := by
  intro f
  induction f with
  | zero =>
    intro r0 x1 x2 n h h' hE
    exact absurd hE (by simp [D_M_keep_14])
  | succ fu ih =>
    intro r0 x1 x2 n h h' hE
    simp only [D_M_keep_14] at hE
    refine xi_iload_n hC d_M_keep_14 rfl 2 rfl ?_
    refine xi_bipush (v := (24 : Int32)) hC d_M_keep_15 (by decide) ?_
    refine xi_icmp_ge (tgt := 77) hC d_M_keep_17 (by decide) (fun hz1 => ?_) (fun hz1 => ?_)
    · rw [if_pos hz1] at hE
      refine xi_iconst (v := (0 : Int32)) hC d_M_keep_77 (by decide) ?_
      refine xi_istore_n (lv' := [(2, .int (0 : Int32)), (0, .ref r0), (1, .int x1)]) hC d_M_keep_78 rfl (by decide) rfl ?_
      refine xi_locs (lv' := [(0, .ref r0), (1, .int x1), (2, .int (0 : Int32))]) [1, 2, 0] rfl ?_
      exact s_M_keep_79 hC hr hlk hnm 5000 _ _ _ _ _ _ hE
    · rw [if_neg hz1] at hE
      refine xi_aload_n hC d_M_keep_20 rfl 0 rfl ?_
      obtain ⟨q3, hE2, hE⟩ := xb1_inv hE
      refine xi_get (C := R_M) (T := T_M) (N := 19) (ci := 4) (k := 14) hC rfl iws_M (by decide) xt_209 (by decide) (xgR_inv hE2) d_M_keep_21 ?_
      refine xi_bipush (v := (24 : Int32)) hC d_M_keep_24 (by decide) ?_
      refine xi_iload_n hC d_M_keep_26 rfl 1 rfl ?_
      refine xi_imul hC d_M_keep_27 ?_
      refine xi_iload_n hC d_M_keep_28 rfl 2 rfl ?_
      refine xi_iadd hC d_M_keep_29 ?_
      refine xi_aload_n hC d_M_keep_30 rfl 0 rfl ?_
      obtain ⟨q5, hE4, hE⟩ := xb1_inv hE
      refine xi_get (C := R_M) (T := T_M) (N := 19) (ci := 4) (k := 14) hC rfl iws_M (by decide) xt_209 (by decide) (xgR_inv hE4) d_M_keep_31 ?_
      refine xi_iload_n hC d_M_keep_34 rfl 2 rfl ?_
      obtain ⟨v6, hE7, hE⟩ := xb1_inv hE
      refine xi_iald hC hE7 d_M_keep_35 ?_
      obtain ⟨h8, hE9, hE⟩ := xb1_inv hE
      refine xi_iast hC hE9 d_M_keep_36 ?_
      refine xi_aload_n hC d_M_keep_37 rfl 0 rfl ?_
      obtain ⟨q11, hE10, hE⟩ := xb1_inv hE
      refine xi_get (C := R_M) (T := T_M) (N := 19) (ci := 4) (k := 15) hC rfl iws_M (by decide) xt_210 (by decide) (xgR_inv hE10) d_M_keep_38 ?_
      refine xi_bipush (v := (24 : Int32)) hC d_M_keep_41 (by decide) ?_
      refine xi_iload_n hC d_M_keep_43 rfl 1 rfl ?_
      refine xi_imul hC d_M_keep_44 ?_
      refine xi_iload_n hC d_M_keep_45 rfl 2 rfl ?_
      refine xi_iadd hC d_M_keep_46 ?_
      refine xi_aload_n hC d_M_keep_47 rfl 0 rfl ?_
      obtain ⟨q13, hE12, hE⟩ := xb1_inv hE
      refine xi_get (C := R_M) (T := T_M) (N := 19) (ci := 4) (k := 15) hC rfl iws_M (by decide) xt_210 (by decide) (xgR_inv hE12) d_M_keep_48 ?_
      refine xi_iload_n hC d_M_keep_51 rfl 2 rfl ?_
      obtain ⟨v14, hE15, hE⟩ := xb1_inv hE
      refine xi_iald hC hE15 d_M_keep_52 ?_
      obtain ⟨h16, hE17, hE⟩ := xb1_inv hE
      refine xi_iast hC hE17 d_M_keep_53 ?_
      refine xi_aload_n hC d_M_keep_54 rfl 0 rfl ?_
      obtain ⟨q19, hE18, hE⟩ := xb1_inv hE
      refine xi_get (C := R_M) (T := T_M) (N := 19) (ci := 4) (k := 17) hC rfl iws_M (by decide) xt_212 (by decide) (xgR_inv hE18) d_M_keep_55 ?_
      refine xi_bipush (v := (24 : Int32)) hC d_M_keep_58 (by decide) ?_
      refine xi_iload_n hC d_M_keep_60 rfl 1 rfl ?_
      refine xi_imul hC d_M_keep_61 ?_
      refine xi_iload_n hC d_M_keep_62 rfl 2 rfl ?_
      refine xi_iadd hC d_M_keep_63 ?_
      refine xi_aload_n hC d_M_keep_64 rfl 0 rfl ?_
      obtain ⟨q21, hE20, hE⟩ := xb1_inv hE
      refine xi_get (C := R_M) (T := T_M) (N := 19) (ci := 4) (k := 17) hC rfl iws_M (by decide) xt_212 (by decide) (xgR_inv hE20) d_M_keep_65 ?_
      refine xi_iload_n hC d_M_keep_68 rfl 2 rfl ?_
      obtain ⟨v22, hE23, hE⟩ := xb1_inv hE
      refine xi_iald hC hE23 d_M_keep_69 ?_
      obtain ⟨h24, hE25, hE⟩ := xb1_inv hE
      refine xi_iast hC hE25 d_M_keep_70 ?_
      refine xi_iinc (v := x2 + 1) (lv' := [(2, .int (x2 + 1)), (0, .ref r0), (1, .int x1)]) hC d_M_keep_71 2 rfl rfl (by decide) rfl ?_
      refine xi_goto (tgt := 14) hC d_M_keep_74 (by decide) ?_
      refine xi_locs (lv' := [(0, .ref r0), (1, .int x1), (2, .int (x2 + 1))]) [1, 2, 0] rfl ?_
      exact ih _ _ _ _ _ _ hE
set_option maxRecDepth 100000 in
set_option maxHeartbeats 4000000 in
theorem s_M_keep_0 {p : Program} {l : Launch} {e : Env} {s : State} {m : MethodId} {args : Array Value} {below : List Frame} {meth : Method} {c : Code} {D : va_G} {A : Nat → Prop} {ad0 : Nat → Nat} {n0 : Nat} (hC : XC p s m args c c_M_keep 3 y_M_keep.cls XTs XCL XNW XAL D A) (hr : meth.sig.returnType = none) (hlk : meth.locks = false) (hnm : meth.name = y_M_keep.name)   (r0 : Nat) (x1 : Int32) (n : Nat) (h : XH) (h' : XH) (hE : D_M_keep_0  r0 x1 h = some h') : XW p l e ({ frames := 0, cells := 0, slots := 0, locals := 0 } : Room) s m args below meth c 3 XCL D A ad0 n0 0 0 (MQ below (xQc D XCL n0 ad0 A none n h') args s 0 0 A) n h 0 [(0, .ref r0), (1, .int x1)] [] := by
  unfold D_M_keep_0 at hE
  refine xi_aload_n hC d_M_keep_0 rfl 0 rfl ?_
  obtain ⟨q2, hE1, hE⟩ := xb1_inv hE
  refine xi_get (C := R_M) (T := T_M) (N := 19) (ci := 4) (k := 13) hC rfl iws_M (by decide) xt_208 (by decide) (xgR_inv hE1) d_M_keep_1 ?_
  refine xi_iload_n hC d_M_keep_4 rfl 1 rfl ?_
  refine xi_aload_n hC d_M_keep_5 rfl 0 rfl ?_
  obtain ⟨q4, hE3, hE⟩ := xb1_inv hE
  refine xi_get (C := R_M) (T := T_M) (N := 19) (ci := 4) (k := 13) hC rfl iws_M (by decide) xt_208 (by decide) (xgR_inv hE3) d_M_keep_6 ?_
  refine xi_iconst (v := (0 : Int32)) hC d_M_keep_9 (by decide) ?_
  obtain ⟨v5, hE6, hE⟩ := xb1_inv hE
  refine xi_iald hC hE6 d_M_keep_10 ?_
  obtain ⟨h7, hE8, hE⟩ := xb1_inv hE
  refine xi_iast hC hE8 d_M_keep_11 ?_
  refine xi_iconst (v := (0 : Int32)) hC d_M_keep_12 (by decide) ?_
  refine xi_istore_n (lv' := [(2, .int (0 : Int32)), (0, .ref r0), (1, .int x1)]) hC d_M_keep_13 rfl (by decide) rfl ?_
  refine xi_locs (lv' := [(0, .ref r0), (1, .int x1), (2, .int (0 : Int32))]) [1, 2, 0] rfl ?_
  exact s_M_keep_14 hC hr hlk hnm 5000 _ _ _ _ _ _ hE
set_option maxRecDepth 100000 in
theorem x_M_keep {l : Launch} {D : va_G} {r0 : Nat} {x1 : Int32} {n : Nat} {h : XH} {h' : XH} (hE : X_M_keep r0 x1 h = some h') : XMet l y_M_keep c_M_keep 3 none XTs XCL XNW XAL D ({ frames := 0, cells := 0, slots := 0, locals := 0 } : Room) 0 0 [.ref r0, .int x1] n h none n h' := by
  refine XMet.mk (by decide) xNW_good xTs_good (Nat.le_of_ble_eq_true rfl) ?_
  intro p e s m args below meth c A ad0 hC hr hlk hnm
  refine xi_locs (lv' := [(0, .ref r0), (1, .int x1)]) [0, 1] rfl ?_
  exact s_M_keep_0 hC hr hlk hnm _ _ n h _ hE

set_option maxRecDepth 100000 in
set_option maxHeartbeats 4000000 in
theorem s_M_build_93 {p : Program} {l : Launch} {e : Env} {s : State} {m : MethodId} {args : Array Value} {below : List Frame} {meth : Method} {c : Code} {D : va_G} {A : Nat → Prop} {ad0 : Nat → Nat} {n0 : Nat} (hC : XC p s m args c c_M_build 2 y_M_build.cls XTs XCL XNW XAL D A) (hr : meth.sig.returnType = some .int) (hlk : meth.locks = false) (hnm : meth.name = y_M_build.name)   (r0 : Nat) (n : Nat) (h : XH) (rr : Int32) (h' : XH) (hE : D_M_build_93  r0 h = some (rr, h')) : XW p l e ({ frames := 3, cells := 0, slots := 0, locals := 74 } : Room) s m args below meth c 2 XCL D A ad0 n0 0 0 (MQ below (xQc D XCL n0 ad0 A (some (.int rr)) n h') args s 0 0 A) n h 93 [(0, .ref r0)] [] := by
  unfold D_M_build_93 at hE
  refine xi_aload_n hC d_M_build_93 rfl 0 rfl ?_
  obtain ⟨q2, hE1, hE⟩ := xb1_inv hE
  refine xi_get (C := R_M) (T := T_M) (N := 19) (ci := 4) (k := 13) hC rfl iws_M (by decide) xt_208 (by decide) (xgR_inv hE1) d_M_build_94 ?_
  refine xi_iconst (v := (0 : Int32)) hC d_M_build_97 (by decide) ?_
  obtain ⟨v3, hE4, hE⟩ := xb1_inv hE
  refine xi_iald hC hE4 d_M_build_98 ?_
  cases hE
  exact xi_iret hC hr hlk d_M_build_99
set_option maxRecDepth 100000 in
set_option maxHeartbeats 4000000 in
theorem s_M_build_45 {p : Program} {l : Launch} {e : Env} {s : State} {m : MethodId} {args : Array Value} {below : List Frame} {meth : Method} {c : Code} {D : va_G} {A : Nat → Prop} {ad0 : Nat → Nat} {n0 : Nat} (hC : XC p s m args c c_M_build 2 y_M_build.cls XTs XCL XNW XAL D A) (hr : meth.sig.returnType = some .int) (hlk : meth.locks = false) (hnm : meth.name = y_M_build.name)   : ∀ (f : Nat) (r0 : Nat) (x1 : Int32) (n : Nat) (h : XH) (rr : Int32) (h' : XH), D_M_build_45  f r0 x1 h = some (rr, h') → XW p l e ({ frames := 3, cells := 0, slots := 0, locals := 74 } : Room) s m args below meth c 2 XCL D A ad0 n0 0 0 (MQ below (xQc D XCL n0 ad0 A (some (.int rr)) n h') args s 0 0 A) n h 45 [(0, .ref r0), (1, .int x1)] [] := by
  intro f
  induction f with
  | zero =>
    intro r0 x1 n h rr h' hE
    exact absurd hE (by simp [D_M_build_45])
  | succ fu ih =>
    intro r0 x1 n h rr h' hE
    simp only [D_M_build_45] at hE
    refine xi_iload_n hC d_M_build_45 rfl 1 rfl ?_
    refine xi_iconst (v := (4 : Int32)) hC d_M_build_46 (by decide) ?_
    refine xi_icmp_gt (tgt := 61) hC d_M_build_47 (by decide) (fun hz1 => ?_) (fun hz1 => ?_)
    · rw [if_pos hz1] at hE
      refine xi_aload_n hC d_M_build_61 rfl 0 rfl ?_
      refine xi_iconst (v := (1 : Int32)) hC d_M_build_62 (by decide) ?_
      obtain ⟨h2, hE3, hE⟩ := xb1_inv hE
      refine xi_put (C := R_M) (T := T_M) (N := 19) (ci := 4) (k := 11) hC ty_M rfl iws_M tok_M nok_M (by decide) xt_223 (by decide) rfl (fun _ => rfl) (fun _ => rfl) hE3 d_M_build_63 ?_
      refine xi_aload_n hC d_M_build_66 rfl 0 rfl ?_
      refine xi_dup hC d_M_build_67 rfl ?_
      obtain ⟨v5, hE4, hE⟩ := xb1_inv hE
      refine xi_get (C := R_M) (T := T_M) (N := 19) (ci := 4) (k := 12) hC rfl iws_M (by decide) xt_250 (by decide) (xgI_inv hE4) d_M_build_68 ?_
      refine xi_iconst (v := (1 : Int32)) hC d_M_build_71 (by decide) ?_
      refine xi_iadd hC d_M_build_72 ?_
      obtain ⟨h6, hE7, hE⟩ := xb1_inv hE
      refine xi_put (C := R_M) (T := T_M) (N := 19) (ci := 4) (k := 12) hC ty_M rfl iws_M tok_M nok_M (by decide) xt_250 (by decide) rfl (fun _ => rfl) (fun _ => rfl) hE7 d_M_build_73 ?_
      refine xi_aload_n hC d_M_build_76 rfl 0 rfl ?_
      obtain ⟨v9, hE8, hE⟩ := xb1_inv hE
      refine xi_get (C := R_M) (T := T_M) (N := 19) (ci := 4) (k := 12) hC rfl iws_M (by decide) xt_250 (by decide) (xgI_inv hE8) d_M_build_77 ?_
      refine xi_bipush (v := (40 : Int32)) hC d_M_build_80 (by decide) ?_
      refine xi_icmp_gt (tgt := 93) hC d_M_build_82 (by decide) (fun hz10 => ?_) (fun hz10 => ?_)
      · rw [if_pos hz10] at hE
        refine xi_locs (lv' := [(0, .ref r0)]) [0] rfl ?_
        exact s_M_build_93 hC hr hlk hnm _ _ _ _ _ hE
      · rw [if_neg hz10] at hE
        refine xi_aload_n hC d_M_build_85 rfl 0 rfl ?_
        refine xi_aload_n hC d_M_build_86 rfl 0 rfl ?_
        obtain ⟨v12, hE11, hE⟩ := xb1_inv hE
        refine xi_get (C := R_M) (T := T_M) (N := 19) (ci := 4) (k := 12) hC rfl iws_M (by decide) xt_250 (by decide) (xgI_inv hE11) d_M_build_87 ?_
        obtain ⟨hI15, hE⟩ := xchk_inv hE
        obtain ⟨h13, hE14, hE⟩ := xb1_inv hE
        refine xi_callV (as := [.int v12]) (st := []) (C := R_M) (T := T_M) (N := 19) hC (x_M_keep hE14) rfl (by decide) hI15 xt_252 xt_253 xt_254 xt_218 xt_251 ⟨by decide, by decide, (by decide +kernel : (parseMethodDescriptor y_M_keep.desc).map (fun d => d.parameters.length) = some 1)⟩ rfl rfl ⟨by decide, by decide⟩ ⟨by decide, by decide⟩ (Nat.le_of_ble_eq_true rfl) rfl d_M_build_90 ?_
        refine xi_stk (st' := []) rfl ?_
        refine xi_locs (lv' := [(0, .ref r0)]) [0] rfl ?_
        exact s_M_build_93 hC hr hlk hnm _ _ _ _ _ hE
    · rw [if_neg hz1] at hE
      refine xi_aload_n hC d_M_build_50 rfl 0 rfl ?_
      refine xi_iload_n hC d_M_build_51 rfl 1 rfl ?_
      obtain ⟨hI18, hE⟩ := xchk_inv hE
      obtain ⟨h16, hE17, hE⟩ := xb1_inv hE
      refine xi_callV (as := [.int x1]) (st := []) (C := R_M) (T := T_M) (N := 19) hC (x_M_makeTasks hE17) rfl (by decide) hI18 xt_256 xt_257 xt_258 xt_218 xt_255 ⟨by decide, by decide, (by decide +kernel : (parseMethodDescriptor y_M_makeTasks.desc).map (fun d => d.parameters.length) = some 1)⟩ rfl rfl ⟨by decide, by decide⟩ ⟨by decide, by decide⟩ (Nat.le_of_ble_eq_true rfl) rfl d_M_build_52 ?_
      refine xi_stk (st' := []) rfl ?_
      refine xi_iinc (v := x1 + 1) (lv' := [(1, .int (x1 + 1)), (0, .ref r0)]) hC d_M_build_55 1 rfl rfl (by decide) rfl ?_
      refine xi_goto (tgt := 45) hC d_M_build_58 (by decide) ?_
      refine xi_locs (lv' := [(0, .ref r0), (1, .int (x1 + 1))]) [1, 0] rfl ?_
      exact ih _ _ _ _ _ _ hE
set_option maxRecDepth 100000 in
set_option maxHeartbeats 4000000 in
theorem s_M_build_12 {p : Program} {l : Launch} {e : Env} {s : State} {m : MethodId} {args : Array Value} {below : List Frame} {meth : Method} {c : Code} {D : va_G} {A : Nat → Prop} {ad0 : Nat → Nat} {n0 : Nat} (hC : XC p s m args c c_M_build 2 y_M_build.cls XTs XCL XNW XAL D A) (hr : meth.sig.returnType = some .int) (hlk : meth.locks = false) (hnm : meth.name = y_M_build.name)   : ∀ (f : Nat) (r0 : Nat) (x1 : Int32) (n : Nat) (h : XH) (rr : Int32) (h' : XH), D_M_build_12  f r0 x1 h = some (rr, h') → XW p l e ({ frames := 3, cells := 0, slots := 0, locals := 74 } : Room) s m args below meth c 2 XCL D A ad0 n0 0 0 (MQ below (xQc D XCL n0 ad0 A (some (.int rr)) n h') args s 0 0 A) n h 12 [(0, .ref r0), (1, .int x1)] [] := by
  intro f
  induction f with
  | zero =>
    intro r0 x1 n h rr h' hE
    exact absurd hE (by simp [D_M_build_12])
  | succ fu ih =>
    intro r0 x1 n h rr h' hE
    simp only [D_M_build_12] at hE
    refine xi_iload_n hC d_M_build_12 rfl 1 rfl ?_
    refine xi_iconst (v := (4 : Int32)) hC d_M_build_13 (by decide) ?_
    refine xi_icmp_gt (tgt := 36) hC d_M_build_14 (by decide) (fun hz1 => ?_) (fun hz1 => ?_)
    · rw [if_pos hz1] at hE
      refine xi_aload_n hC d_M_build_36 rfl 0 rfl ?_
      obtain ⟨q3, hE2, hE⟩ := xb1_inv hE
      refine xi_get (C := R_M) (T := T_M) (N := 19) (ci := 4) (k := 13) hC rfl iws_M (by decide) xt_208 (by decide) (xgR_inv hE2) d_M_build_37 ?_
      refine xi_iconst (v := (0 : Int32)) hC d_M_build_40 (by decide) ?_
      refine xi_iconst (v := (0 : Int32)) hC d_M_build_41 (by decide) ?_
      obtain ⟨h4, hE5, hE⟩ := xb1_inv hE
      refine xi_iast hC hE5 d_M_build_42 ?_
      refine xi_iconst (v := (1 : Int32)) hC d_M_build_43 (by decide) ?_
      refine xi_istore_n (lv' := [(1, .int (1 : Int32)), (0, .ref r0)]) hC d_M_build_44 rfl (by decide) rfl ?_
      refine xi_locs (lv' := [(0, .ref r0), (1, .int (1 : Int32))]) [1, 0] rfl ?_
      exact s_M_build_45 hC hr hlk hnm 5000 _ _ _ _ _ _ hE
    · rw [if_neg hz1] at hE
      refine xi_aload_n hC d_M_build_17 rfl 0 rfl ?_
      refine xi_iload_n hC d_M_build_18 rfl 1 rfl ?_
      obtain ⟨hI8, hE⟩ := xchk_inv hE
      obtain ⟨v6, hE7, hE⟩ := xb1_inv hE
      refine xi_callV (as := [.int x1]) (st := []) (C := R_M) (T := T_M) (N := 19) hC (x_M_tasksOn hE7) rfl (by decide) hI8 xt_260 xt_261 xt_262 xt_218 xt_259 ⟨by decide, by decide, (by decide +kernel : (parseMethodDescriptor y_M_tasksOn.desc).map (fun d => d.parameters.length) = some 1)⟩ rfl rfl ⟨by decide, by decide⟩ ⟨by decide, by decide⟩ (Nat.le_of_ble_eq_true rfl) rfl d_M_build_19 ?_
      refine xi_stk (st' := [.int v6]) rfl ?_
      refine xi_bipush (v := (12 : Int32)) hC d_M_build_22 (by decide) ?_
      refine xi_icmp_le (tgt := 30) hC d_M_build_24 (by decide) (fun hz9 => ?_) (fun hz9 => ?_)
      · rw [if_pos hz9] at hE
        refine xi_iinc (v := x1 + 1) (lv' := [(1, .int (x1 + 1)), (0, .ref r0)]) hC d_M_build_30 1 rfl rfl (by decide) rfl ?_
        refine xi_goto (tgt := 12) hC d_M_build_33 (by decide) ?_
        refine xi_locs (lv' := [(0, .ref r0), (1, .int (x1 + 1))]) [1, 0] rfl ?_
        exact ih _ _ _ _ _ _ hE
      · rw [if_neg hz9] at hE
        refine xi_bipush (v := (-4 : Int32)) hC d_M_build_27 (by decide) ?_
        cases hE
        exact xi_iret hC hr hlk d_M_build_29
set_option maxRecDepth 100000 in
set_option maxHeartbeats 4000000 in
theorem s_M_build_0 {p : Program} {l : Launch} {e : Env} {s : State} {m : MethodId} {args : Array Value} {below : List Frame} {meth : Method} {c : Code} {D : va_G} {A : Nat → Prop} {ad0 : Nat → Nat} {n0 : Nat} (hC : XC p s m args c c_M_build 2 y_M_build.cls XTs XCL XNW XAL D A) (hr : meth.sig.returnType = some .int) (hlk : meth.locks = false) (hnm : meth.name = y_M_build.name)   (r0 : Nat) (n : Nat) (h : XH) (rr : Int32) (h' : XH) (hE : D_M_build_0  r0 h = some (rr, h')) : XW p l e ({ frames := 3, cells := 0, slots := 0, locals := 74 } : Room) s m args below meth c 2 XCL D A ad0 n0 0 0 (MQ below (xQc D XCL n0 ad0 A (some (.int rr)) n h') args s 0 0 A) n h 0 [(0, .ref r0)] [] := by
  unfold D_M_build_0 at hE
  refine xi_aload_n hC d_M_build_0 rfl 0 rfl ?_
  refine xi_iconst (v := (0 : Int32)) hC d_M_build_1 (by decide) ?_
  obtain ⟨h1, hE2, hE⟩ := xb1_inv hE
  refine xi_put (C := R_M) (T := T_M) (N := 19) (ci := 4) (k := 0) hC ty_M rfl iws_M tok_M nok_M (by decide) xt_219 (by decide) rfl (fun _ => rfl) (fun _ => rfl) hE2 d_M_build_2 ?_
  refine xi_aload_n hC d_M_build_5 rfl 0 rfl ?_
  refine xi_iconst (v := (0 : Int32)) hC d_M_build_6 (by decide) ?_
  obtain ⟨h3, hE4, hE⟩ := xb1_inv hE
  refine xi_put (C := R_M) (T := T_M) (N := 19) (ci := 4) (k := 11) hC ty_M rfl iws_M tok_M nok_M (by decide) xt_223 (by decide) rfl (fun _ => rfl) (fun _ => rfl) hE4 d_M_build_7 ?_
  refine xi_iconst (v := (1 : Int32)) hC d_M_build_10 (by decide) ?_
  refine xi_istore_n (lv' := [(1, .int (1 : Int32)), (0, .ref r0)]) hC d_M_build_11 rfl (by decide) rfl ?_
  refine xi_locs (lv' := [(0, .ref r0), (1, .int (1 : Int32))]) [1, 0] rfl ?_
  exact s_M_build_12 hC hr hlk hnm 5000 _ _ _ _ _ _ hE
set_option maxRecDepth 100000 in
theorem x_M_build {l : Launch} {D : va_G} {r0 : Nat} {n : Nat} {h : XH} {rr : Int32} {h' : XH} (hE : X_M_build r0 h = some (rr, h')) : XMet l y_M_build c_M_build 2 (some .int) XTs XCL XNW XAL D ({ frames := 3, cells := 0, slots := 0, locals := 74 } : Room) 0 0 [.ref r0] n h (some (.int rr)) n h' := by
  refine XMet.mk (by decide) xNW_good xTs_good (Nat.le_of_ble_eq_true rfl) ?_
  intro p e s m args below meth c A ad0 hC hr hlk hnm
  refine xi_locs (lv' := [(0, .ref r0)]) [0] rfl ?_
  exact s_M_build_0 hC hr hlk hnm _ n h _ _ hE

set_option maxRecDepth 100000 in
set_option maxHeartbeats 4000000 in
theorem s_M_from_19 {p : Program} {l : Launch} {e : Env} {s : State} {m : MethodId} {args : Array Value} {below : List Frame} {meth : Method} {c : Code} {D : va_G} {A : Nat → Prop} {ad0 : Nat → Nat} {n0 : Nat} (hC : XC p s m args c c_M_from 3 y_M_from.cls XTs XCL XNW XAL D A) (hr : meth.sig.returnType = some .int) (hlk : meth.locks = false) (hnm : meth.name = y_M_from.name)   (s0 : Int32) (n : Nat) (h : XH) (rr : Int32)  (hE : D_M_from_19  s0 h = some rr) : XW p l e ({ frames := 0, cells := 0, slots := 0, locals := 0 } : Room) s m args below meth c 3 XCL D A ad0 n0 0 0 (MQ below (xQc D XCL n0 ad0 A (some (.int rr)) n h) args s 0 0 A) n h 19 [] [.int s0] := by
  unfold D_M_from_19 at hE
  cases hE
  exact xi_iret hC hr hlk d_M_from_19
set_option maxRecDepth 100000 in
set_option maxHeartbeats 4000000 in
theorem s_M_from_0 {p : Program} {l : Launch} {e : Env} {s : State} {m : MethodId} {args : Array Value} {below : List Frame} {meth : Method} {c : Code} {D : va_G} {A : Nat → Prop} {ad0 : Nat → Nat} {n0 : Nat} (hC : XC p s m args c c_M_from 3 y_M_from.cls XTs XCL XNW XAL D A) (hr : meth.sig.returnType = some .int) (hlk : meth.locks = false) (hnm : meth.name = y_M_from.name)   (r0 : Nat) (x1 : Int32) (x2 : Int32) (n : Nat) (h : XH) (rr : Int32)  (hE : D_M_from_0  r0 x1 x2 h = some rr) : XW p l e ({ frames := 0, cells := 0, slots := 0, locals := 0 } : Room) s m args below meth c 3 XCL D A ad0 n0 0 0 (MQ below (xQc D XCL n0 ad0 A (some (.int rr)) n h) args s 0 0 A) n h 0 [(0, .ref r0), (1, .int x1), (2, .int x2)] [] := by
  unfold D_M_from_0 at hE
  refine xi_iload_n hC d_M_from_0 rfl 2 rfl ?_
  refine xi_if_ne (tgt := 8) hC d_M_from_1 (by decide) (fun hz1 => ?_) (fun hz1 => ?_)
  · rw [if_neg hz1] at hE
    refine xi_aload_n hC d_M_from_8 rfl 0 rfl ?_
    obtain ⟨q3, hE2, hE⟩ := xb1_inv hE
    refine xi_get (C := R_M) (T := T_M) (N := 19) (ci := 4) (k := 16) hC rfl iws_M (by decide) xt_211 (by decide) (xgR_inv hE2) d_M_from_9 ?_
    refine xi_bipush (v := (25 : Int32)) hC d_M_from_12 (by decide) ?_
    refine xi_iload_n hC d_M_from_14 rfl 1 rfl ?_
    refine xi_imul hC d_M_from_15 ?_
    refine xi_iload_n hC d_M_from_16 rfl 2 rfl ?_
    refine xi_iadd hC d_M_from_17 ?_
    obtain ⟨v4, hE5, hE⟩ := xb1_inv hE
    refine xi_iald hC hE5 d_M_from_18 ?_
    refine xi_locs (lv' := []) [] rfl ?_
    exact s_M_from_19 hC hr hlk hnm _ _ _ _ hE
  · rw [if_pos hz1] at hE
    refine xi_iconst (v := (0 : Int32)) hC d_M_from_4 (by decide) ?_
    refine xi_goto (tgt := 19) hC d_M_from_5 (by decide) ?_
    refine xi_locs (lv' := []) [] rfl ?_
    exact s_M_from_19 hC hr hlk hnm _ _ _ _ hE
set_option maxRecDepth 100000 in
theorem x_M_from {l : Launch} {D : va_G} {r0 : Nat} {x1 : Int32} {x2 : Int32} {n : Nat} {h : XH} {rr : Int32}  (hE : X_M_from r0 x1 x2 h = some rr) : XMet l y_M_from c_M_from 3 (some .int) XTs XCL XNW XAL D ({ frames := 0, cells := 0, slots := 0, locals := 0 } : Room) 0 0 [.ref r0, .int x1, .int x2] n h (some (.int rr)) n h := by
  refine XMet.mk (by decide) xNW_good xTs_good (Nat.le_of_ble_eq_true rfl) ?_
  intro p e s m args below meth c A ad0 hC hr hlk hnm
  refine xi_locs (lv' := [(0, .ref r0), (1, .int x1), (2, .int x2)]) [0, 1, 2] rfl ?_
  exact s_M_from_0 hC hr hlk hnm _ _ _ n h _ hE

set_option maxRecDepth 100000 in
set_option maxHeartbeats 4000000 in
theorem s_M_isTask_0 {p : Program} {l : Launch} {e : Env} {s : State} {m : MethodId} {args : Array Value} {below : List Frame} {meth : Method} {c : Code} {D : va_G} {A : Nat → Prop} {ad0 : Nat → Nat} {n0 : Nat} (hC : XC p s m args c c_M_isTask 2 y_M_isTask.cls XTs XCL XNW XAL D A) (hr : meth.sig.returnType = some .boolean) (hlk : meth.locks = false) (hnm : meth.name = y_M_isTask.name)   (r0 : Nat) (x1 : Int32) (n : Nat) (h : XH) (rr : Int32)  (hE : D_M_isTask_0  r0 x1 h = some rr) : XW p l e ({ frames := 1, cells := 0, slots := 0, locals := 25 } : Room) s m args below meth c 2 XCL D A ad0 n0 0 0 (MQ below (xQc D XCL n0 ad0 A (some (.int rr)) n h) args s 0 0 A) n h 0 [(0, .ref r0), (1, .int x1)] [] := by
  unfold D_M_isTask_0 at hE
  refine xi_iload_n hC d_M_isTask_0 rfl 1 rfl ?_
  refine xi_i2l hC d_M_isTask_1 ?_
  refine xi_lconst (v := (1 : Int64)) hC d_M_isTask_2 (by decide) ?_
  refine xi_aload_n hC d_M_isTask_3 rfl 0 rfl ?_
  obtain ⟨q2, hE1, hE⟩ := xb1_inv hE
  refine xi_get (C := R_M) (T := T_M) (N := 19) (ci := 4) (k := 13) hC rfl iws_M (by decide) xt_208 (by decide) (xgR_inv hE1) d_M_isTask_4 ?_
  refine xi_iconst (v := (0 : Int32)) hC d_M_isTask_7 (by decide) ?_
  obtain ⟨v3, hE4, hE⟩ := xb1_inv hE
  refine xi_iald hC hE4 d_M_isTask_8 ?_
  refine xi_i2l hC d_M_isTask_9 ?_
  obtain ⟨v5, hE6, hE⟩ := xb1_inv hE
  refine xi_callS (as := [.long (x1.toInt64), .long (1 : Int64), .long (v3.toInt64)]) (st := []) hC (x_M_isIn hE6) xt_216 xt_217 xt_218 xt_215 ⟨by decide, by decide, (by decide +kernel : (parseMethodDescriptor y_M_isIn.desc).map (fun d => d.parameters.length) = some 3)⟩ rfl rfl ⟨by decide, by decide⟩ ⟨by decide, by decide⟩ (Nat.le_of_ble_eq_true rfl) rfl d_M_isTask_10 ?_
  refine xi_stk (st' := [.int v5]) rfl ?_
  obtain ⟨hb7, hE⟩ := xchk_inv hE
  cases hE
  exact xi_zret hC hr (xzb_nar hb7) hlk d_M_isTask_13
set_option maxRecDepth 100000 in
theorem x_M_isTask {l : Launch} {D : va_G} {r0 : Nat} {x1 : Int32} {n : Nat} {h : XH} {rr : Int32}  (hE : X_M_isTask r0 x1 h = some rr) : XMet l y_M_isTask c_M_isTask 2 (some .boolean) XTs XCL XNW XAL D ({ frames := 1, cells := 0, slots := 0, locals := 25 } : Room) 0 0 [.ref r0, .int x1] n h (some (.int rr)) n h := by
  refine XMet.mk (by decide) xNW_good xTs_good (Nat.le_of_ble_eq_true rfl) ?_
  intro p e s m args below meth c A ad0 hC hr hlk hnm
  refine xi_locs (lv' := [(0, .ref r0), (1, .int x1)]) [0, 1] rfl ?_
  exact s_M_isTask_0 hC hr hlk hnm _ _ n h _ hE

set_option maxRecDepth 100000 in
set_option maxHeartbeats 4000000 in
theorem s_M_task_35 {p : Program} {l : Launch} {e : Env} {s : State} {m : MethodId} {args : Array Value} {below : List Frame} {meth : Method} {c : Code} {D : va_G} {A : Nat → Prop} {ad0 : Nat → Nat} {n0 : Nat} (hC : XC p s m args c c_M_task 2 y_M_task.cls XTs XCL XNW XAL D A) (hr : meth.sig.returnType = some .int) (hlk : meth.locks = false) (hnm : meth.name = y_M_task.name)   (s0 : Int32) (n : Nat) (h : XH) (rr : Int32) (h' : XH) (hE : D_M_task_35  s0 h = some (rr, h')) : XW p l e ({ frames := 2, cells := 0, slots := 0, locals := 46 } : Room) s m args below meth c 2 XCL D A ad0 n0 0 0 (MQ below (xQc D XCL n0 ad0 A (some (.int rr)) n h') args s 0 0 A) n h 35 [] [.int s0] := by
  unfold D_M_task_35 at hE
  cases hE
  exact xi_iret hC hr hlk d_M_task_35
set_option maxRecDepth 100000 in
set_option maxHeartbeats 4000000 in
theorem s_M_task_0 {p : Program} {l : Launch} {e : Env} {s : State} {m : MethodId} {args : Array Value} {below : List Frame} {meth : Method} {c : Code} {D : va_G} {A : Nat → Prop} {ad0 : Nat → Nat} {n0 : Nat} (hC : XC p s m args c c_M_task 2 y_M_task.cls XTs XCL XNW XAL D A) (hr : meth.sig.returnType = some .int) (hlk : meth.locks = false) (hnm : meth.name = y_M_task.name)   (r0 : Nat) (x1 : Int32) (n : Nat) (h : XH) (rr : Int32) (h' : XH) (hE : D_M_task_0  r0 x1 h = some (rr, h')) : XW p l e ({ frames := 2, cells := 0, slots := 0, locals := 46 } : Room) s m args below meth c 2 XCL D A ad0 n0 0 0 (MQ below (xQc D XCL n0 ad0 A (some (.int rr)) n h') args s 0 0 A) n h 0 [(0, .ref r0), (1, .int x1)] [] := by
  unfold D_M_task_0 at hE
  refine xi_aload_n hC d_M_task_0 rfl 0 rfl ?_
  refine xi_iconst (v := (0 : Int32)) hC d_M_task_1 (by decide) ?_
  obtain ⟨h1, hE2, hE⟩ := xb1_inv hE
  refine xi_put (C := R_M) (T := T_M) (N := 19) (ci := 4) (k := 0) hC ty_M rfl iws_M tok_M nok_M (by decide) xt_219 (by decide) rfl (fun _ => rfl) (fun _ => rfl) hE2 d_M_task_2 ?_
  refine xi_aload_n hC d_M_task_5 rfl 0 rfl ?_
  refine xi_iload_n hC d_M_task_6 rfl 1 rfl ?_
  obtain ⟨hI5, hE⟩ := xchk_inv hE
  obtain ⟨v3, hE4, hE⟩ := xb1_inv hE
  refine xi_callV (as := [.int x1]) (st := []) (C := R_M) (T := T_M) (N := 19) hC (x_M_isRunnable hE4) rfl (by decide) hI5 xt_226 xt_227 xt_228 xt_218 xt_225 ⟨by decide, by decide, (by decide +kernel : (parseMethodDescriptor y_M_isRunnable.desc).map (fun d => d.parameters.length) = some 1)⟩ rfl rfl ⟨by decide, by decide⟩ ⟨by decide, by decide⟩ (Nat.le_of_ble_eq_true rfl) rfl d_M_task_7 ?_
  refine xi_stk (st' := [.int v3]) rfl ?_
  refine xi_if_ne (tgt := 17) hC d_M_task_10 (by decide) (fun hz6 => ?_) (fun hz6 => ?_)
  · rw [if_neg hz6] at hE
    refine xi_aload_n hC d_M_task_17 rfl 0 rfl ?_
    obtain ⟨v8, hE7, hE⟩ := xb1_inv hE
    refine xi_get (C := R_M) (T := T_M) (N := 19) (ci := 4) (k := 11) hC rfl iws_M (by decide) xt_223 (by decide) (xgI_inv hE7) d_M_task_18 ?_
    refine xi_if_ne (tgt := 29) hC d_M_task_21 (by decide) (fun hz9 => ?_) (fun hz9 => ?_)
    · rw [if_neg hz9] at hE
      refine xi_aload_n hC d_M_task_29 rfl 0 rfl ?_
      obtain ⟨q11, hE10, hE⟩ := xb1_inv hE
      refine xi_get (C := R_M) (T := T_M) (N := 19) (ci := 4) (k := 18) hC rfl iws_M (by decide) xt_213 (by decide) (xgR_inv hE10) d_M_task_30 ?_
      refine xi_iload_n hC d_M_task_33 rfl 1 rfl ?_
      obtain ⟨v12, hE13, hE⟩ := xb1_inv hE
      refine xi_iald hC hE13 d_M_task_34 ?_
      refine xi_locs (lv' := []) [] rfl ?_
      exact s_M_task_35 hC hr hlk hnm _ _ _ _ _ hE
    · rw [if_pos hz9] at hE
      refine xi_bipush (v := (-3 : Int32)) hC d_M_task_24 (by decide) ?_
      refine xi_goto (tgt := 35) hC d_M_task_26 (by decide) ?_
      refine xi_locs (lv' := []) [] rfl ?_
      exact s_M_task_35 hC hr hlk hnm _ _ _ _ _ hE
  · rw [if_pos hz6] at hE
    refine xi_iconst (v := (-1 : Int32)) hC d_M_task_13 (by decide) ?_
    refine xi_goto (tgt := 35) hC d_M_task_14 (by decide) ?_
    refine xi_locs (lv' := []) [] rfl ?_
    exact s_M_task_35 hC hr hlk hnm _ _ _ _ _ hE
set_option maxRecDepth 100000 in
theorem x_M_task {l : Launch} {D : va_G} {r0 : Nat} {x1 : Int32} {n : Nat} {h : XH} {rr : Int32} {h' : XH} (hE : X_M_task r0 x1 h = some (rr, h')) : XMet l y_M_task c_M_task 2 (some .int) XTs XCL XNW XAL D ({ frames := 2, cells := 0, slots := 0, locals := 46 } : Room) 0 0 [.ref r0, .int x1] n h (some (.int rr)) n h' := by
  refine XMet.mk (by decide) xNW_good xTs_good (Nat.le_of_ble_eq_true rfl) ?_
  intro p e s m args below meth c A ad0 hC hr hlk hnm
  refine xi_locs (lv' := [(0, .ref r0), (1, .int x1)]) [0, 1] rfl ?_
  exact s_M_task_0 hC hr hlk hnm _ _ n h _ _ hE


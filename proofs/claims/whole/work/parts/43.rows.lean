set_option maxRecDepth 100000 in
set_option maxHeartbeats 4000000 in
theorem s_M_budget_94 {p : Program} {l : Launch} {e : Env} {s : State} {m : MethodId} {args : Array Value} {below : List Frame} {meth : Method} {c : Code} {D : va_G} {A : Nat → Prop} {ad0 : Nat → Nat} {n0 : Nat} (hC : XC p s m args c c_M_budget 7 y_M_budget.cls XTs XCL XNW XAL D A) (hr : meth.sig.returnType = some .int) (hlk : meth.locks = false) (hnm : meth.name = y_M_budget.name)   (s0 : Int32) (n : Nat) (h : XH) (rr : Int32) (h' : XH) (hE : D_M_budget_94  s0 h = some (rr, h')) : XW p l e ({ frames := 2, cells := 0, slots := 0, locals := 46 } : Room) s m args below meth c 7 XCL D A ad0 n0 0 0 (MQ below (xQc D XCL n0 ad0 A (some (.int rr)) n h') args s 0 0 A) n h 94 [] [.int s0] := by
  unfold D_M_budget_94 at hE
  cases hE
  exact xi_iret hC hr hlk d_M_budget_94
set_option maxRecDepth 100000 in
set_option maxHeartbeats 4000000 in
theorem s_M_budget_47 {p : Program} {l : Launch} {e : Env} {s : State} {m : MethodId} {args : Array Value} {below : List Frame} {meth : Method} {c : Code} {D : va_G} {A : Nat → Prop} {ad0 : Nat → Nat} {n0 : Nat} (hC : XC p s m args c c_M_budget 7 y_M_budget.cls XTs XCL XNW XAL D A) (hr : meth.sig.returnType = some .int) (hlk : meth.locks = false) (hnm : meth.name = y_M_budget.name)   : ∀ (f : Nat) (r0 : Nat) (x1 : Int32) (x2 : Int64) (x4 : Int64) (x6 : Int32) (n : Nat) (h : XH) (rr : Int32) (h' : XH), D_M_budget_47  f r0 x1 x2 x4 x6 h = some (rr, h') → XW p l e ({ frames := 2, cells := 0, slots := 0, locals := 46 } : Room) s m args below meth c 7 XCL D A ad0 n0 0 0 (MQ below (xQc D XCL n0 ad0 A (some (.int rr)) n h') args s 0 0 A) n h 47 [(0, .ref r0), (1, .int x1), (2, .long x2), (4, .long x4), (6, .int x6)] [] := by
  intro f
  induction f with
  | zero =>
    intro r0 x1 x2 x4 x6 n h rr h' hE
    exact absurd hE (by simp [D_M_budget_47])
  | succ fu ih =>
    intro r0 x1 x2 x4 x6 n h rr h' hE
    simp only [D_M_budget_47] at hE
    refine xi_iload hC d_M_budget_47 4 rfl ?_
    refine xi_aload_n hC d_M_budget_49 rfl 0 rfl ?_
    obtain ⟨q2, hE1, hE⟩ := xb1_inv hE
    refine xi_get (C := R_M) (T := T_M) (N := 19) (ci := 4) (k := 16) hC rfl iws_M (by decide) xt_211 (by decide) (xgR_inv hE1) d_M_budget_50 ?_
    refine xi_iload_n hC d_M_budget_53 rfl 1 rfl ?_
    obtain ⟨v3, hE4, hE⟩ := xb1_inv hE
    refine xi_iald hC hE4 d_M_budget_54 ?_
    refine xi_icmp_ge (tgt := 82) hC d_M_budget_55 (by decide) (fun hz5 => ?_) (fun hz5 => ?_)
    · rw [if_pos hz5] at hE
      refine xi_lload hC d_M_budget_82 3 rfl ?_
      refine xi_lload_n hC d_M_budget_84 rfl 2 rfl ?_
      refine xi_lcmp hC d_M_budget_85 ?_
      refine xi_if_gt (tgt := 93) hC d_M_budget_86 (by decide) (fun hz6 => ?_) (fun hz6 => ?_)
      · rw [if_pos hz6] at hE
        refine xi_iconst (v := (0 : Int32)) hC d_M_budget_93 (by decide) ?_
        refine xi_locs (lv' := []) [] rfl ?_
        exact s_M_budget_94 hC hr hlk hnm _ _ _ _ _ hE
      · rw [if_neg hz6] at hE
        refine xi_iconst (v := (1 : Int32)) hC d_M_budget_89 (by decide) ?_
        refine xi_goto (tgt := 94) hC d_M_budget_90 (by decide) ?_
        refine xi_locs (lv' := []) [] rfl ?_
        exact s_M_budget_94 hC hr hlk hnm _ _ _ _ _ hE
    · rw [if_neg hz5] at hE
      refine xi_lload hC d_M_budget_58 3 rfl ?_
      refine xi_aload_n hC d_M_budget_60 rfl 0 rfl ?_
      obtain ⟨q8, hE7, hE⟩ := xb1_inv hE
      refine xi_get (C := R_M) (T := T_M) (N := 19) (ci := 4) (k := 4) hC rfl iws_M (by decide) xt_202 (by decide) (xgR_inv hE7) d_M_budget_61 ?_
      refine xi_aload_n hC d_M_budget_64 rfl 0 rfl ?_
      obtain ⟨q10, hE9, hE⟩ := xb1_inv hE
      refine xi_get (C := R_M) (T := T_M) (N := 19) (ci := 4) (k := 17) hC rfl iws_M (by decide) xt_212 (by decide) (xgR_inv hE9) d_M_budget_65 ?_
      refine xi_iload hC d_M_budget_68 4 rfl ?_
      obtain ⟨v11, hE12, hE⟩ := xb1_inv hE
      refine xi_iald hC hE12 d_M_budget_70 ?_
      obtain ⟨v13, hE14, hE⟩ := xb1_inv hE
      refine xi_iald hC hE14 d_M_budget_71 ?_
      refine xi_i2l hC d_M_budget_72 ?_
      refine xi_ladd hC d_M_budget_73 ?_
      refine xi_lstore (lv' := [(4, .long (x4 + (v13.toInt64))), (0, .ref r0), (1, .int x1), (2, .long x2), (6, .int x6)]) hC d_M_budget_74 (by decide) rfl ?_
      refine xi_iinc (v := x6 + 1) (lv' := [(6, .int (x6 + 1)), (4, .long (x4 + (v13.toInt64))), (0, .ref r0), (1, .int x1), (2, .long x2)]) hC d_M_budget_76 4 rfl rfl (by decide) rfl ?_
      refine xi_goto (tgt := 47) hC d_M_budget_79 (by decide) ?_
      refine xi_locs (lv' := [(0, .ref r0), (1, .int x1), (2, .long x2), (4, .long (x4 + (v13.toInt64))), (6, .int (x6 + 1))]) [2, 3, 4, 1, 0] rfl ?_
      exact ih _ _ _ _ _ _ _ _ _ hE
set_option maxRecDepth 100000 in
set_option maxHeartbeats 4000000 in
theorem s_M_budget_0 {p : Program} {l : Launch} {e : Env} {s : State} {m : MethodId} {args : Array Value} {below : List Frame} {meth : Method} {c : Code} {D : va_G} {A : Nat → Prop} {ad0 : Nat → Nat} {n0 : Nat} (hC : XC p s m args c c_M_budget 7 y_M_budget.cls XTs XCL XNW XAL D A) (hr : meth.sig.returnType = some .int) (hlk : meth.locks = false) (hnm : meth.name = y_M_budget.name)   (r0 : Nat) (x1 : Int32) (x2 : Int64) (n : Nat) (h : XH) (rr : Int32) (h' : XH) (hE : D_M_budget_0  r0 x1 x2 h = some (rr, h')) : XW p l e ({ frames := 2, cells := 0, slots := 0, locals := 46 } : Room) s m args below meth c 7 XCL D A ad0 n0 0 0 (MQ below (xQc D XCL n0 ad0 A (some (.int rr)) n h') args s 0 0 A) n h 0 [(0, .ref r0), (1, .int x1), (2, .long x2)] [] := by
  unfold D_M_budget_0 at hE
  refine xi_aload_n hC d_M_budget_0 rfl 0 rfl ?_
  refine xi_iconst (v := (0 : Int32)) hC d_M_budget_1 (by decide) ?_
  obtain ⟨h1, hE2, hE⟩ := xb1_inv hE
  refine xi_put (C := R_M) (T := T_M) (N := 19) (ci := 4) (k := 0) hC ty_M rfl iws_M tok_M nok_M (by decide) xt_219 (by decide) rfl (fun _ => rfl) (fun _ => rfl) hE2 d_M_budget_2 ?_
  refine xi_aload_n hC d_M_budget_5 rfl 0 rfl ?_
  obtain ⟨v4, hE3, hE⟩ := xb1_inv hE
  refine xi_get (C := R_M) (T := T_M) (N := 19) (ci := 4) (k := 11) hC rfl iws_M (by decide) xt_223 (by decide) (xgI_inv hE3) d_M_budget_6 ?_
  refine xi_if_ne (tgt := 15) hC d_M_budget_9 (by decide) (fun hz5 => ?_) (fun hz5 => ?_)
  · rw [if_neg hz5] at hE
    refine xi_aload_n hC d_M_budget_15 rfl 0 rfl ?_
    refine xi_iload_n hC d_M_budget_16 rfl 1 rfl ?_
    obtain ⟨hI8, hE⟩ := xchk_inv hE
    obtain ⟨v6, hE7, hE⟩ := xb1_inv hE
    refine xi_callV (as := [.int x1]) (st := []) (C := R_M) (T := T_M) (N := 19) hC (x_M_isTask hE7) rfl (by decide) hI8 xt_264 xt_265 xt_266 xt_218 xt_263 ⟨by decide, by decide, (by decide +kernel : (parseMethodDescriptor y_M_isTask.desc).map (fun d => d.parameters.length) = some 1)⟩ rfl rfl ⟨by decide, by decide⟩ ⟨by decide, by decide⟩ (Nat.le_of_ble_eq_true rfl) rfl d_M_budget_17 ?_
    refine xi_stk (st' := [.int v6]) rfl ?_
    refine xi_if_ne (tgt := 25) hC d_M_budget_20 (by decide) (fun hz9 => ?_) (fun hz9 => ?_)
    · rw [if_neg hz9] at hE
      refine xi_lload_n hC d_M_budget_25 rfl 2 rfl ?_
      refine xi_lconst (v := (0 : Int64)) hC d_M_budget_26 (by decide) ?_
      refine xi_lcmp hC d_M_budget_27 ?_
      refine xi_if_ge (tgt := 34) hC d_M_budget_28 (by decide) (fun hz10 => ?_) (fun hz10 => ?_)
      · rw [if_pos hz10] at hE
        refine xi_lconst (v := (0 : Int64)) hC d_M_budget_34 (by decide) ?_
        refine xi_lstore (lv' := [(4, .long (0 : Int64)), (0, .ref r0), (1, .int x1), (2, .long x2)]) hC d_M_budget_35 (by decide) rfl ?_
        refine xi_aload_n hC d_M_budget_37 rfl 1 rfl ?_
        refine xi_iconst (v := (0 : Int32)) hC d_M_budget_38 (by decide) ?_
        refine xi_iload_n hC d_M_budget_39 rfl 2 rfl ?_
        refine xi_iconst (v := (1 : Int32)) hC d_M_budget_40 (by decide) ?_
        refine xi_isub hC d_M_budget_41 ?_
        obtain ⟨hI13, hE⟩ := xchk_inv hE
        obtain ⟨v11, hE12, hE⟩ := xb1_inv hE
        refine xi_callV (as := [.int (0 : Int32), .int (x1 - (1 : Int32))]) (st := []) (C := R_M) (T := T_M) (N := 19) hC (x_M_from hE12) rfl (by decide) hI13 xt_268 xt_269 xt_270 xt_218 xt_267 ⟨by decide, by decide, (by decide +kernel : (parseMethodDescriptor y_M_from.desc).map (fun d => d.parameters.length) = some 2)⟩ rfl rfl ⟨by decide, by decide⟩ ⟨by decide, by decide⟩ (Nat.le_of_ble_eq_true rfl) rfl d_M_budget_42 ?_
        refine xi_stk (st' := [.int v11]) rfl ?_
        refine xi_istore (lv' := [(6, .int v11), (4, .long (0 : Int64)), (0, .ref r0), (1, .int x1), (2, .long x2)]) hC d_M_budget_45 (by decide) rfl ?_
        refine xi_locs (lv' := [(0, .ref r0), (1, .int x1), (2, .long x2), (4, .long (0 : Int64)), (6, .int v11)]) [2, 3, 4, 1, 0] rfl ?_
        exact s_M_budget_47 hC hr hlk hnm 5000 _ _ _ _ _ _ _ _ _ hE
      · rw [if_neg hz10] at hE
        refine xi_bipush (v := (-2 : Int32)) hC d_M_budget_31 (by decide) ?_
        cases hE
        exact xi_iret hC hr hlk d_M_budget_33
    · rw [if_pos hz9] at hE
      refine xi_iconst (v := (-1 : Int32)) hC d_M_budget_23 (by decide) ?_
      cases hE
      exact xi_iret hC hr hlk d_M_budget_24
  · rw [if_pos hz5] at hE
    refine xi_bipush (v := (-3 : Int32)) hC d_M_budget_12 (by decide) ?_
    cases hE
    exact xi_iret hC hr hlk d_M_budget_14
set_option maxRecDepth 100000 in
theorem x_M_budget {l : Launch} {D : va_G} {r0 : Nat} {x1 : Int32} {x2 : Int64} {n : Nat} {h : XH} {rr : Int32} {h' : XH} (hE : X_M_budget r0 x1 x2 h = some (rr, h')) : XMet l y_M_budget c_M_budget 7 (some .int) XTs XCL XNW XAL D ({ frames := 2, cells := 0, slots := 0, locals := 46 } : Room) 0 0 [.ref r0, .int x1, .long x2] n h (some (.int rr)) n h' := by
  refine XMet.mk (by decide) xNW_good xTs_good (Nat.le_of_ble_eq_true rfl) ?_
  intro p e s m args below meth c A ad0 hC hr hlk hnm
  refine xi_locs (lv' := [(0, .ref r0), (1, .int x1), (2, .long x2)]) [0, 1, 2] rfl ?_
  exact s_M_budget_0 hC hr hlk hnm _ _ _ n h _ _ hE

set_option maxRecDepth 100000 in
set_option maxHeartbeats 4000000 in
theorem s_M_isSame_153 {p : Program} {l : Launch} {e : Env} {s : State} {m : MethodId} {args : Array Value} {below : List Frame} {meth : Method} {c : Code} {D : va_G} {A : Nat → Prop} {ad0 : Nat → Nat} {n0 : Nat} (hC : XC p s m args c c_M_isSame 9 y_M_isSame.cls XTs XCL XNW XAL D A) (hr : meth.sig.returnType = some .boolean) (hlk : meth.locks = false) (hnm : meth.name = y_M_isSame.name)   (x7 : Int32) (n : Nat) (h : XH) (rr : Int32)  (hE : D_M_isSame_153  x7 h = some rr) : XW p l e ({ frames := 1, cells := 0, slots := 0, locals := 22 } : Room) s m args below meth c 9 XCL D A ad0 n0 0 0 (MQ below (xQc D XCL n0 ad0 A (some (.int rr)) n h) args s 0 0 A) n h 153 [(7, .int x7)] [] := by
  unfold D_M_isSame_153 at hE
  refine xi_iload hC d_M_isSame_153 0 rfl ?_
  obtain ⟨hb1, hE⟩ := xchk_inv hE
  cases hE
  exact xi_zret hC hr (xzb_nar hb1) hlk d_M_isSame_155
set_option maxRecDepth 100000 in
set_option maxHeartbeats 4000000 in
theorem s_M_isSame_145 {p : Program} {l : Launch} {e : Env} {s : State} {m : MethodId} {args : Array Value} {below : List Frame} {meth : Method} {c : Code} {D : va_G} {A : Nat → Prop} {ad0 : Nat → Nat} {n0 : Nat} (hC : XC p s m args c c_M_isSame 9 y_M_isSame.cls XTs XCL XNW XAL D A) (hr : meth.sig.returnType = some .boolean) (hlk : meth.locks = false) (hnm : meth.name = y_M_isSame.name) {k100 : Nat → Int32 → Int32 → Int32 → Int32 → Int32 → Int32 → XH → Option (Int32)} (n : Nat) (h : XH) (rr : Int32)  (hk100 : ∀ (r0 : Nat) (x2 : Int32) (x4 : Int32) (x5 : Int32) (x6 : Int32) (x7 : Int32) (x8 : Int32), k100 r0 x2 x4 x5 x6 x7 x8 h = some rr → XW p l e ({ frames := 1, cells := 0, slots := 0, locals := 22 } : Room) s m args below meth c 9 XCL D A ad0 n0 0 0 (MQ below (xQc D XCL n0 ad0 A (some (.int rr)) n h) args s 0 0 A) n h 100 [(0, .ref r0), (2, .int x2), (4, .int x4), (5, .int x5), (6, .int x6), (7, .int x7), (8, .int x8)] []) (r0 : Nat) (x2 : Int32) (x4 : Int32) (x5 : Int32) (x6 : Int32) (x8 : Int32) (s0 : Int32)  (hE : D_M_isSame_145 k100 r0 x2 x4 x5 x6 x8 s0 h = some rr) : XW p l e ({ frames := 1, cells := 0, slots := 0, locals := 22 } : Room) s m args below meth c 9 XCL D A ad0 n0 0 0 (MQ below (xQc D XCL n0 ad0 A (some (.int rr)) n h) args s 0 0 A) n h 145 [(0, .ref r0), (2, .int x2), (4, .int x4), (5, .int x5), (6, .int x6), (8, .int x8)] [.int s0] := by
  unfold D_M_isSame_145 at hE
  refine xi_istore (lv' := [(7, .int s0), (0, .ref r0), (2, .int x2), (4, .int x4), (5, .int x5), (6, .int x6), (8, .int x8)]) hC d_M_isSame_145 (by decide) rfl ?_
  refine xi_iinc (v := x8 + 1) (lv' := [(8, .int (x8 + 1)), (7, .int s0), (0, .ref r0), (2, .int x2), (4, .int x4), (5, .int x5), (6, .int x6)]) hC d_M_isSame_147 6 rfl rfl (by decide) rfl ?_
  refine xi_goto (tgt := 100) hC d_M_isSame_150 (by decide) ?_
  refine xi_locs (lv' := [(0, .ref r0), (2, .int x2), (4, .int x4), (5, .int x5), (6, .int x6), (7, .int s0), (8, .int (x8 + 1))]) [2, 3, 4, 5, 6, 1, 0] rfl ?_
  exact hk100 _ _ _ _ _ _ _ hE
set_option maxRecDepth 100000 in
set_option maxHeartbeats 4000000 in
theorem s_M_isSame_100 {p : Program} {l : Launch} {e : Env} {s : State} {m : MethodId} {args : Array Value} {below : List Frame} {meth : Method} {c : Code} {D : va_G} {A : Nat → Prop} {ad0 : Nat → Nat} {n0 : Nat} (hC : XC p s m args c c_M_isSame 9 y_M_isSame.cls XTs XCL XNW XAL D A) (hr : meth.sig.returnType = some .boolean) (hlk : meth.locks = false) (hnm : meth.name = y_M_isSame.name)   : ∀ (f : Nat) (r0 : Nat) (x2 : Int32) (x4 : Int32) (x5 : Int32) (x6 : Int32) (x7 : Int32) (x8 : Int32) (n : Nat) (h : XH) (rr : Int32) , D_M_isSame_100  f r0 x2 x4 x5 x6 x7 x8 h = some rr → XW p l e ({ frames := 1, cells := 0, slots := 0, locals := 22 } : Room) s m args below meth c 9 XCL D A ad0 n0 0 0 (MQ below (xQc D XCL n0 ad0 A (some (.int rr)) n h) args s 0 0 A) n h 100 [(0, .ref r0), (2, .int x2), (4, .int x4), (5, .int x5), (6, .int x6), (7, .int x7), (8, .int x8)] [] := by
  intro f
  induction f with
  | zero =>
    intro r0 x2 x4 x5 x6 x7 x8 n h rr hE
    exact absurd hE (by simp [D_M_isSame_100])
  | succ fu ih =>
    intro r0 x2 x4 x5 x6 x7 x8 n h rr hE
    simp only [D_M_isSame_100] at hE
    refine xi_iload hC d_M_isSame_100 6 rfl ?_
    refine xi_iload hC d_M_isSame_102 4 rfl ?_
    refine xi_icmp_ge (tgt := 153) hC d_M_isSame_104 (by decide) (fun hz1 => ?_) (fun hz1 => ?_)
    · rw [if_pos hz1] at hE
      refine xi_locs (lv' := [(7, .int x7)]) [5] rfl ?_
      exact s_M_isSame_153 hC hr hlk hnm _ _ _ _ hE
    · rw [if_neg hz1] at hE
      refine xi_iload hC d_M_isSame_107 5 rfl ?_
      refine xi_if_eq (tgt := 153) hC d_M_isSame_109 (by decide) (fun hz2 => ?_) (fun hz2 => ?_)
      · rw [if_pos hz2] at hE
        refine xi_locs (lv' := [(7, .int x7)]) [5] rfl ?_
        exact s_M_isSame_153 hC hr hlk hnm _ _ _ _ hE
      · rw [if_neg hz2] at hE
        refine xi_aload_n hC d_M_isSame_112 rfl 0 rfl ?_
        obtain ⟨q4, hE3, hE⟩ := xb1_inv hE
        refine xi_get (C := R_M) (T := T_M) (N := 19) (ci := 4) (k := 17) hC rfl iws_M (by decide) xt_212 (by decide) (xgR_inv hE3) d_M_isSame_113 ?_
        refine xi_iload hC d_M_isSame_116 2 rfl ?_
        refine xi_iload hC d_M_isSame_118 6 rfl ?_
        refine xi_iadd hC d_M_isSame_120 ?_
        obtain ⟨v5, hE6, hE⟩ := xb1_inv hE
        refine xi_iald hC hE6 d_M_isSame_121 ?_
        refine xi_aload_n hC d_M_isSame_122 rfl 0 rfl ?_
        obtain ⟨q8, hE7, hE⟩ := xb1_inv hE
        refine xi_get (C := R_M) (T := T_M) (N := 19) (ci := 4) (k := 17) hC rfl iws_M (by decide) xt_212 (by decide) (xgR_inv hE7) d_M_isSame_123 ?_
        refine xi_bipush (v := (24 : Int32)) hC d_M_isSame_126 (by decide) ?_
        refine xi_iload_n hC d_M_isSame_128 rfl 1 rfl ?_
        refine xi_imul hC d_M_isSame_129 ?_
        refine xi_iload hC d_M_isSame_130 3 rfl ?_
        refine xi_iadd hC d_M_isSame_132 ?_
        refine xi_iload hC d_M_isSame_133 6 rfl ?_
        refine xi_iadd hC d_M_isSame_135 ?_
        obtain ⟨v9, hE10, hE⟩ := xb1_inv hE
        refine xi_iald hC hE10 d_M_isSame_136 ?_
        refine xi_icmp_ne (tgt := 144) hC d_M_isSame_137 (by decide) (fun hz11 => ?_) (fun hz11 => ?_)
        · rw [if_neg hz11] at hE
          refine xi_iconst (v := (0 : Int32)) hC d_M_isSame_144 (by decide) ?_
          refine xi_locs (lv' := [(0, .ref r0), (2, .int x2), (4, .int x4), (5, .int x5), (6, .int x6), (8, .int x8)]) [0, 1, 2, 3, 4, 6] rfl ?_
          exact s_M_isSame_145 hC hr hlk hnm _ _ _ (fun y0 y1 y2 y3 y4 y5 y6 z => ih y0 y1 y2 y3 y4 y5 y6 _ _ _ z) _ _ _ _ _ _ _ hE
        · rw [if_pos hz11] at hE
          refine xi_iconst (v := (1 : Int32)) hC d_M_isSame_140 (by decide) ?_
          refine xi_goto (tgt := 145) hC d_M_isSame_141 (by decide) ?_
          refine xi_locs (lv' := [(0, .ref r0), (2, .int x2), (4, .int x4), (5, .int x5), (6, .int x6), (8, .int x8)]) [0, 1, 2, 3, 4, 6] rfl ?_
          exact s_M_isSame_145 hC hr hlk hnm _ _ _ (fun y0 y1 y2 y3 y4 y5 y6 z => ih y0 y1 y2 y3 y4 y5 y6 _ _ _ z) _ _ _ _ _ _ _ hE
set_option maxRecDepth 100000 in
set_option maxHeartbeats 4000000 in
theorem s_M_isSame_95 {p : Program} {l : Launch} {e : Env} {s : State} {m : MethodId} {args : Array Value} {below : List Frame} {meth : Method} {c : Code} {D : va_G} {A : Nat → Prop} {ad0 : Nat → Nat} {n0 : Nat} (hC : XC p s m args c c_M_isSame 9 y_M_isSame.cls XTs XCL XNW XAL D A) (hr : meth.sig.returnType = some .boolean) (hlk : meth.locks = false) (hnm : meth.name = y_M_isSame.name)   (r0 : Nat) (x2 : Int32) (x4 : Int32) (x5 : Int32) (x6 : Int32) (s0 : Int32) (n : Nat) (h : XH) (rr : Int32)  (hE : D_M_isSame_95  r0 x2 x4 x5 x6 s0 h = some rr) : XW p l e ({ frames := 1, cells := 0, slots := 0, locals := 22 } : Room) s m args below meth c 9 XCL D A ad0 n0 0 0 (MQ below (xQc D XCL n0 ad0 A (some (.int rr)) n h) args s 0 0 A) n h 95 [(0, .ref r0), (2, .int x2), (4, .int x4), (5, .int x5), (6, .int x6)] [.int s0] := by
  unfold D_M_isSame_95 at hE
  refine xi_istore (lv' := [(7, .int s0), (0, .ref r0), (2, .int x2), (4, .int x4), (5, .int x5), (6, .int x6)]) hC d_M_isSame_95 (by decide) rfl ?_
  refine xi_iconst (v := (0 : Int32)) hC d_M_isSame_97 (by decide) ?_
  refine xi_istore (lv' := [(8, .int (0 : Int32)), (7, .int s0), (0, .ref r0), (2, .int x2), (4, .int x4), (5, .int x5), (6, .int x6)]) hC d_M_isSame_98 (by decide) rfl ?_
  refine xi_locs (lv' := [(0, .ref r0), (2, .int x2), (4, .int x4), (5, .int x5), (6, .int x6), (7, .int s0), (8, .int (0 : Int32))]) [2, 3, 4, 5, 6, 1, 0] rfl ?_
  exact s_M_isSame_100 hC hr hlk hnm 5000 _ _ _ _ _ _ _ _ _ _ hE
set_option maxRecDepth 100000 in
set_option maxHeartbeats 4000000 in
theorem s_M_isSame_94 {p : Program} {l : Launch} {e : Env} {s : State} {m : MethodId} {args : Array Value} {below : List Frame} {meth : Method} {c : Code} {D : va_G} {A : Nat → Prop} {ad0 : Nat → Nat} {n0 : Nat} (hC : XC p s m args c c_M_isSame 9 y_M_isSame.cls XTs XCL XNW XAL D A) (hr : meth.sig.returnType = some .boolean) (hlk : meth.locks = false) (hnm : meth.name = y_M_isSame.name)   (r0 : Nat) (x2 : Int32) (x4 : Int32) (x5 : Int32) (x6 : Int32) (n : Nat) (h : XH) (rr : Int32)  (hE : D_M_isSame_94  r0 x2 x4 x5 x6 h = some rr) : XW p l e ({ frames := 1, cells := 0, slots := 0, locals := 22 } : Room) s m args below meth c 9 XCL D A ad0 n0 0 0 (MQ below (xQc D XCL n0 ad0 A (some (.int rr)) n h) args s 0 0 A) n h 94 [(0, .ref r0), (2, .int x2), (4, .int x4), (5, .int x5), (6, .int x6)] [] := by
  unfold D_M_isSame_94 at hE
  refine xi_iconst (v := (0 : Int32)) hC d_M_isSame_94 (by decide) ?_
  refine xi_locs (lv' := [(0, .ref r0), (2, .int x2), (4, .int x4), (5, .int x5), (6, .int x6)]) [0, 1, 2, 3, 4] rfl ?_
  exact s_M_isSame_95 hC hr hlk hnm _ _ _ _ _ _ _ _ _ hE
set_option maxRecDepth 100000 in
set_option maxHeartbeats 4000000 in
theorem s_M_isSame_0 {p : Program} {l : Launch} {e : Env} {s : State} {m : MethodId} {args : Array Value} {below : List Frame} {meth : Method} {c : Code} {D : va_G} {A : Nat → Prop} {ad0 : Nat → Nat} {n0 : Nat} (hC : XC p s m args c c_M_isSame 9 y_M_isSame.cls XTs XCL XNW XAL D A) (hr : meth.sig.returnType = some .boolean) (hlk : meth.locks = false) (hnm : meth.name = y_M_isSame.name)   (r0 : Nat) (x1 : Int32) (x2 : Int32) (x3 : Int32) (n : Nat) (h : XH) (rr : Int32)  (hE : D_M_isSame_0  r0 x1 x2 x3 h = some rr) : XW p l e ({ frames := 1, cells := 0, slots := 0, locals := 22 } : Room) s m args below meth c 9 XCL D A ad0 n0 0 0 (MQ below (xQc D XCL n0 ad0 A (some (.int rr)) n h) args s 0 0 A) n h 0 [(0, .ref r0), (1, .int x1), (2, .int x2), (3, .int x3)] [] := by
  unfold D_M_isSame_0 at hE
  refine xi_aload_n hC d_M_isSame_0 rfl 0 rfl ?_
  refine xi_iconst (v := (0 : Int32)) hC d_M_isSame_1 (by decide) ?_
  refine xi_iload_n hC d_M_isSame_2 rfl 1 rfl ?_
  obtain ⟨hI3, hE⟩ := xchk_inv hE
  obtain ⟨v1, hE2, hE⟩ := xb1_inv hE
  refine xi_callV (as := [.int (0 : Int32), .int x1]) (st := []) (C := R_M) (T := T_M) (N := 19) hC (x_M_from hE2) rfl (by decide) hI3 xt_268 xt_269 xt_270 xt_218 xt_267 ⟨by decide, by decide, (by decide +kernel : (parseMethodDescriptor y_M_from.desc).map (fun d => d.parameters.length) = some 2)⟩ rfl rfl ⟨by decide, by decide⟩ ⟨by decide, by decide⟩ (Nat.le_of_ble_eq_true rfl) rfl d_M_isSame_3 ?_
  refine xi_stk (st' := [.int v1]) rfl ?_
  refine xi_istore (lv' := [(4, .int v1), (0, .ref r0), (1, .int x1), (2, .int x2), (3, .int x3)]) hC d_M_isSame_6 (by decide) rfl ?_
  refine xi_aload_n hC d_M_isSame_8 rfl 1 rfl ?_
  refine xi_iload_n hC d_M_isSame_9 rfl 3 rfl ?_
  refine xi_iload_n hC d_M_isSame_10 rfl 4 rfl ?_
  obtain ⟨hI6, hE⟩ := xchk_inv hE
  obtain ⟨v4, hE5, hE⟩ := xb1_inv hE
  refine xi_callV (as := [.int x2, .int x3]) (st := []) (C := R_M) (T := T_M) (N := 19) hC (x_M_from hE5) rfl (by decide) hI6 xt_268 xt_269 xt_270 xt_218 xt_267 ⟨by decide, by decide, (by decide +kernel : (parseMethodDescriptor y_M_from.desc).map (fun d => d.parameters.length) = some 2)⟩ rfl rfl ⟨by decide, by decide⟩ ⟨by decide, by decide⟩ (Nat.le_of_ble_eq_true rfl) rfl d_M_isSame_11 ?_
  refine xi_stk (st' := [.int v4]) rfl ?_
  refine xi_istore (lv' := [(5, .int v4), (4, .int v1), (0, .ref r0), (1, .int x1), (2, .int x2), (3, .int x3)]) hC d_M_isSame_14 (by decide) rfl ?_
  refine xi_aload_n hC d_M_isSame_16 rfl 2 rfl ?_
  obtain ⟨q8, hE7, hE⟩ := xb1_inv hE
  refine xi_get (C := R_M) (T := T_M) (N := 19) (ci := 4) (k := 16) hC rfl iws_M (by decide) xt_211 (by decide) (xgR_inv hE7) d_M_isSame_17 ?_
  refine xi_iload_n hC d_M_isSame_20 rfl 3 rfl ?_
  refine xi_iconst (v := (1 : Int32)) hC d_M_isSame_21 (by decide) ?_
  refine xi_iadd hC d_M_isSame_22 ?_
  obtain ⟨v9, hE10, hE⟩ := xb1_inv hE
  refine xi_iald hC hE10 d_M_isSame_23 ?_
  refine xi_iload hC d_M_isSame_24 1 rfl ?_
  refine xi_isub hC d_M_isSame_26 ?_
  refine xi_istore (lv' := [(6, .int (v9 - v1)), (5, .int v4), (4, .int v1), (0, .ref r0), (1, .int x1), (2, .int x2), (3, .int x3)]) hC d_M_isSame_27 (by decide) rfl ?_
  refine xi_aload_n hC d_M_isSame_29 rfl 3 rfl ?_
  obtain ⟨q12, hE11, hE⟩ := xb1_inv hE
  refine xi_get (C := R_M) (T := T_M) (N := 19) (ci := 4) (k := 14) hC rfl iws_M (by decide) xt_209 (by decide) (xgR_inv hE11) d_M_isSame_30 ?_
  refine xi_iload_n hC d_M_isSame_33 rfl 4 rfl ?_
  obtain ⟨v13, hE14, hE⟩ := xb1_inv hE
  refine xi_iald hC hE14 d_M_isSame_34 ?_
  refine xi_aload_n hC d_M_isSame_35 rfl 3 rfl ?_
  obtain ⟨q16, hE15, hE⟩ := xb1_inv hE
  refine xi_get (C := R_M) (T := T_M) (N := 19) (ci := 4) (k := 14) hC rfl iws_M (by decide) xt_209 (by decide) (xgR_inv hE15) d_M_isSame_36 ?_
  refine xi_bipush (v := (24 : Int32)) hC d_M_isSame_39 (by decide) ?_
  refine xi_iload_n hC d_M_isSame_41 rfl 5 rfl ?_
  refine xi_imul hC d_M_isSame_42 ?_
  refine xi_iload_n hC d_M_isSame_43 rfl 6 rfl ?_
  refine xi_iadd hC d_M_isSame_44 ?_
  obtain ⟨v17, hE18, hE⟩ := xb1_inv hE
  refine xi_iald hC hE18 d_M_isSame_45 ?_
  refine xi_icmp_ne (tgt := 94) hC d_M_isSame_46 (by decide) (fun hz19 => ?_) (fun hz19 => ?_)
  · rw [if_neg hz19] at hE
    refine xi_locs (lv' := [(0, .ref r0), (2, .int x2), (4, .int v1), (5, .int v4), (6, .int (v9 - v1))]) [3, 5, 2, 1, 0] rfl ?_
    exact s_M_isSame_94 hC hr hlk hnm _ _ _ _ _ _ _ _ hE
  · rw [if_pos hz19] at hE
    refine xi_aload_n hC d_M_isSame_49 rfl 3 rfl ?_
    obtain ⟨q21, hE20, hE⟩ := xb1_inv hE
    refine xi_get (C := R_M) (T := T_M) (N := 19) (ci := 4) (k := 15) hC rfl iws_M (by decide) xt_210 (by decide) (xgR_inv hE20) d_M_isSame_50 ?_
    refine xi_iload_n hC d_M_isSame_53 rfl 4 rfl ?_
    obtain ⟨v22, hE23, hE⟩ := xb1_inv hE
    refine xi_iald hC hE23 d_M_isSame_54 ?_
    refine xi_aload_n hC d_M_isSame_55 rfl 3 rfl ?_
    obtain ⟨q25, hE24, hE⟩ := xb1_inv hE
    refine xi_get (C := R_M) (T := T_M) (N := 19) (ci := 4) (k := 15) hC rfl iws_M (by decide) xt_210 (by decide) (xgR_inv hE24) d_M_isSame_56 ?_
    refine xi_bipush (v := (24 : Int32)) hC d_M_isSame_59 (by decide) ?_
    refine xi_iload_n hC d_M_isSame_61 rfl 5 rfl ?_
    refine xi_imul hC d_M_isSame_62 ?_
    refine xi_iload_n hC d_M_isSame_63 rfl 6 rfl ?_
    refine xi_iadd hC d_M_isSame_64 ?_
    obtain ⟨v26, hE27, hE⟩ := xb1_inv hE
    refine xi_iald hC hE27 d_M_isSame_65 ?_
    refine xi_icmp_ne (tgt := 94) hC d_M_isSame_66 (by decide) (fun hz28 => ?_) (fun hz28 => ?_)
    · rw [if_neg hz28] at hE
      refine xi_locs (lv' := [(0, .ref r0), (2, .int x2), (4, .int v1), (5, .int v4), (6, .int (v9 - v1))]) [3, 5, 2, 1, 0] rfl ?_
      exact s_M_isSame_94 hC hr hlk hnm _ _ _ _ _ _ _ _ hE
    · rw [if_pos hz28] at hE
      refine xi_aload_n hC d_M_isSame_69 rfl 3 rfl ?_
      obtain ⟨q30, hE29, hE⟩ := xb1_inv hE
      refine xi_get (C := R_M) (T := T_M) (N := 19) (ci := 4) (k := 16) hC rfl iws_M (by decide) xt_211 (by decide) (xgR_inv hE29) d_M_isSame_70 ?_
      refine xi_bipush (v := (25 : Int32)) hC d_M_isSame_73 (by decide) ?_
      refine xi_iload_n hC d_M_isSame_75 rfl 5 rfl ?_
      refine xi_imul hC d_M_isSame_76 ?_
      refine xi_iload_n hC d_M_isSame_77 rfl 6 rfl ?_
      refine xi_iadd hC d_M_isSame_78 ?_
      refine xi_iconst (v := (1 : Int32)) hC d_M_isSame_79 (by decide) ?_
      refine xi_iadd hC d_M_isSame_80 ?_
      obtain ⟨v31, hE32, hE⟩ := xb1_inv hE
      refine xi_iald hC hE32 d_M_isSame_81 ?_
      refine xi_iload hC d_M_isSame_82 1 rfl ?_
      refine xi_isub hC d_M_isSame_84 ?_
      refine xi_iload hC d_M_isSame_85 0 rfl ?_
      refine xi_icmp_ne (tgt := 94) hC d_M_isSame_87 (by decide) (fun hz33 => ?_) (fun hz33 => ?_)
      · rw [if_neg hz33] at hE
        refine xi_locs (lv' := [(0, .ref r0), (2, .int x2), (4, .int v1), (5, .int v4), (6, .int (v9 - v1))]) [3, 5, 2, 1, 0] rfl ?_
        exact s_M_isSame_94 hC hr hlk hnm _ _ _ _ _ _ _ _ hE
      · rw [if_pos hz33] at hE
        refine xi_iconst (v := (1 : Int32)) hC d_M_isSame_90 (by decide) ?_
        refine xi_goto (tgt := 95) hC d_M_isSame_91 (by decide) ?_
        refine xi_locs (lv' := [(0, .ref r0), (2, .int x2), (4, .int v1), (5, .int v4), (6, .int (v9 - v1))]) [3, 5, 2, 1, 0] rfl ?_
        exact s_M_isSame_95 hC hr hlk hnm _ _ _ _ _ _ _ _ _ hE
set_option maxRecDepth 100000 in
theorem x_M_isSame {l : Launch} {D : va_G} {r0 : Nat} {x1 : Int32} {x2 : Int32} {x3 : Int32} {n : Nat} {h : XH} {rr : Int32}  (hE : X_M_isSame r0 x1 x2 x3 h = some rr) : XMet l y_M_isSame c_M_isSame 9 (some .boolean) XTs XCL XNW XAL D ({ frames := 1, cells := 0, slots := 0, locals := 22 } : Room) 0 0 [.ref r0, .int x1, .int x2, .int x3] n h (some (.int rr)) n h := by
  refine XMet.mk (by decide) xNW_good xTs_good (Nat.le_of_ble_eq_true rfl) ?_
  intro p e s m args below meth c A ad0 hC hr hlk hnm
  refine xi_locs (lv' := [(0, .ref r0), (1, .int x1), (2, .int x2), (3, .int x3)]) [0, 1, 2, 3] rfl ?_
  exact s_M_isSame_0 hC hr hlk hnm _ _ _ _ n h _ hE

set_option maxRecDepth 100000 in
set_option maxHeartbeats 4000000 in
theorem s_M_differ_108 {p : Program} {l : Launch} {e : Env} {s : State} {m : MethodId} {args : Array Value} {below : List Frame} {meth : Method} {c : Code} {D : va_G} {A : Nat → Prop} {ad0 : Nat → Nat} {n0 : Nat} (hC : XC p s m args c c_M_differ 6 y_M_differ.cls XTs XCL XNW XAL D A) (hr : meth.sig.returnType = some .int) (hlk : meth.locks = false) (hnm : meth.name = y_M_differ.name) {k41 : Nat → Int32 → Int32 → Int32 → XH → Option (Int32 × XH)} (n : Nat) (rr : Int32) (h' : XH) (hk41 : ∀ (r0 : Nat) (x1 : Int32) (x2 : Int32) (x3 : Int32) (h1 : XH), k41 r0 x1 x2 x3 h1 = some (rr, h') → XW p l e ({ frames := 2, cells := 0, slots := 0, locals := 50 } : Room) s m args below meth c 6 XCL D A ad0 n0 0 0 (MQ below (xQc D XCL n0 ad0 A (some (.int rr)) n h') args s 0 0 A) n h1 41 [(0, .ref r0), (1, .int x1), (2, .int x2), (3, .int x3)] []) (r0 : Nat) (x1 : Int32) (x3 : Int32) (s0 : Int32) (s1 : Int32) (h : XH)  (hE : D_M_differ_108 k41 r0 x1 x3 s0 s1 h = some (rr, h')) : XW p l e ({ frames := 2, cells := 0, slots := 0, locals := 50 } : Room) s m args below meth c 6 XCL D A ad0 n0 0 0 (MQ below (xQc D XCL n0 ad0 A (some (.int rr)) n h') args s 0 0 A) n h 108 [(0, .ref r0), (1, .int x1), (3, .int x3)] [.int s0, .int s1] := by
  unfold D_M_differ_108 at hE
  refine xi_iadd hC d_M_differ_108 ?_
  refine xi_istore_n (lv' := [(2, .int (s1 + s0)), (0, .ref r0), (1, .int x1), (3, .int x3)]) hC d_M_differ_109 rfl (by decide) rfl ?_
  refine xi_iinc (v := x3 + 1) (lv' := [(3, .int (x3 + 1)), (2, .int (s1 + s0)), (0, .ref r0), (1, .int x1)]) hC d_M_differ_110 3 rfl rfl (by decide) rfl ?_
  refine xi_goto (tgt := 41) hC d_M_differ_113 (by decide) ?_
  refine xi_locs (lv' := [(0, .ref r0), (1, .int x1), (2, .int (s1 + s0)), (3, .int (x3 + 1))]) [2, 3, 1, 0] rfl ?_
  exact hk41 _ _ _ _ _ hE
set_option maxRecDepth 100000 in
set_option maxHeartbeats 4000000 in
theorem s_M_differ_89 {p : Program} {l : Launch} {e : Env} {s : State} {m : MethodId} {args : Array Value} {below : List Frame} {meth : Method} {c : Code} {D : va_G} {A : Nat → Prop} {ad0 : Nat → Nat} {n0 : Nat} (hC : XC p s m args c c_M_differ 6 y_M_differ.cls XTs XCL XNW XAL D A) (hr : meth.sig.returnType = some .int) (hlk : meth.locks = false) (hnm : meth.name = y_M_differ.name) {k41 : Nat → Int32 → Int32 → Int32 → XH → Option (Int32 × XH)} {k57 : Nat → Int32 → Int32 → Int32 → Int32 → Int32 → XH → Option (Int32 × XH)} (n : Nat) (rr : Int32) (h' : XH) (hk41 : ∀ (r0 : Nat) (x1 : Int32) (x2 : Int32) (x3 : Int32) (h1 : XH), k41 r0 x1 x2 x3 h1 = some (rr, h') → XW p l e ({ frames := 2, cells := 0, slots := 0, locals := 50 } : Room) s m args below meth c 6 XCL D A ad0 n0 0 0 (MQ below (xQc D XCL n0 ad0 A (some (.int rr)) n h') args s 0 0 A) n h1 41 [(0, .ref r0), (1, .int x1), (2, .int x2), (3, .int x3)] []) (hk57 : ∀ (r0 : Nat) (x1 : Int32) (x2 : Int32) (x3 : Int32) (x4 : Int32) (x5 : Int32) (h1 : XH), k57 r0 x1 x2 x3 x4 x5 h1 = some (rr, h') → XW p l e ({ frames := 2, cells := 0, slots := 0, locals := 50 } : Room) s m args below meth c 6 XCL D A ad0 n0 0 0 (MQ below (xQc D XCL n0 ad0 A (some (.int rr)) n h') args s 0 0 A) n h1 57 [(0, .ref r0), (1, .int x1), (2, .int x2), (3, .int x3), (4, .int x4), (5, .int x5)] []) (r0 : Nat) (x1 : Int32) (x2 : Int32) (x3 : Int32) (x5 : Int32) (s0 : Int32) (h : XH)  (hE : D_M_differ_89 k41 k57 r0 x1 x2 x3 x5 s0 h = some (rr, h')) : XW p l e ({ frames := 2, cells := 0, slots := 0, locals := 50 } : Room) s m args below meth c 6 XCL D A ad0 n0 0 0 (MQ below (xQc D XCL n0 ad0 A (some (.int rr)) n h') args s 0 0 A) n h 89 [(0, .ref r0), (1, .int x1), (2, .int x2), (3, .int x3), (5, .int x5)] [.int s0] := by
  unfold D_M_differ_89 at hE
  refine xi_istore (lv' := [(4, .int s0), (0, .ref r0), (1, .int x1), (2, .int x2), (3, .int x3), (5, .int x5)]) hC d_M_differ_89 (by decide) rfl ?_
  refine xi_iinc (v := x5 + 1) (lv' := [(5, .int (x5 + 1)), (4, .int s0), (0, .ref r0), (1, .int x1), (2, .int x2), (3, .int x3)]) hC d_M_differ_91 5 rfl rfl (by decide) rfl ?_
  refine xi_goto (tgt := 57) hC d_M_differ_94 (by decide) ?_
  refine xi_locs (lv' := [(0, .ref r0), (1, .int x1), (2, .int x2), (3, .int x3), (4, .int s0), (5, .int (x5 + 1))]) [2, 3, 4, 5, 1, 0] rfl ?_
  exact hk57 _ _ _ _ _ _ _ hE
set_option maxRecDepth 100000 in
set_option maxHeartbeats 4000000 in
theorem s_M_differ_84 {p : Program} {l : Launch} {e : Env} {s : State} {m : MethodId} {args : Array Value} {below : List Frame} {meth : Method} {c : Code} {D : va_G} {A : Nat → Prop} {ad0 : Nat → Nat} {n0 : Nat} (hC : XC p s m args c c_M_differ 6 y_M_differ.cls XTs XCL XNW XAL D A) (hr : meth.sig.returnType = some .int) (hlk : meth.locks = false) (hnm : meth.name = y_M_differ.name) {k41 : Nat → Int32 → Int32 → Int32 → XH → Option (Int32 × XH)} {k57 : Nat → Int32 → Int32 → Int32 → Int32 → Int32 → XH → Option (Int32 × XH)} (n : Nat) (rr : Int32) (h' : XH) (hk41 : ∀ (r0 : Nat) (x1 : Int32) (x2 : Int32) (x3 : Int32) (h1 : XH), k41 r0 x1 x2 x3 h1 = some (rr, h') → XW p l e ({ frames := 2, cells := 0, slots := 0, locals := 50 } : Room) s m args below meth c 6 XCL D A ad0 n0 0 0 (MQ below (xQc D XCL n0 ad0 A (some (.int rr)) n h') args s 0 0 A) n h1 41 [(0, .ref r0), (1, .int x1), (2, .int x2), (3, .int x3)] []) (hk57 : ∀ (r0 : Nat) (x1 : Int32) (x2 : Int32) (x3 : Int32) (x4 : Int32) (x5 : Int32) (h1 : XH), k57 r0 x1 x2 x3 x4 x5 h1 = some (rr, h') → XW p l e ({ frames := 2, cells := 0, slots := 0, locals := 50 } : Room) s m args below meth c 6 XCL D A ad0 n0 0 0 (MQ below (xQc D XCL n0 ad0 A (some (.int rr)) n h') args s 0 0 A) n h1 57 [(0, .ref r0), (1, .int x1), (2, .int x2), (3, .int x3), (4, .int x4), (5, .int x5)] []) (r0 : Nat) (x1 : Int32) (x2 : Int32) (x3 : Int32) (x5 : Int32) (h : XH)  (hE : D_M_differ_84 k41 k57 r0 x1 x2 x3 x5 h = some (rr, h')) : XW p l e ({ frames := 2, cells := 0, slots := 0, locals := 50 } : Room) s m args below meth c 6 XCL D A ad0 n0 0 0 (MQ below (xQc D XCL n0 ad0 A (some (.int rr)) n h') args s 0 0 A) n h 84 [(0, .ref r0), (1, .int x1), (2, .int x2), (3, .int x3), (5, .int x5)] [] := by
  unfold D_M_differ_84 at hE
  refine xi_iconst (v := (1 : Int32)) hC d_M_differ_84 (by decide) ?_
  refine xi_goto (tgt := 89) hC d_M_differ_85 (by decide) ?_
  refine xi_locs (lv' := [(0, .ref r0), (1, .int x1), (2, .int x2), (3, .int x3), (5, .int x5)]) [0, 1, 2, 3, 4] rfl ?_
  exact s_M_differ_89 hC hr hlk hnm _ _ _ hk41 hk57 _ _ _ _ _ _ _ hE
set_option maxRecDepth 100000 in
set_option maxHeartbeats 4000000 in
theorem s_M_differ_57 {p : Program} {l : Launch} {e : Env} {s : State} {m : MethodId} {args : Array Value} {below : List Frame} {meth : Method} {c : Code} {D : va_G} {A : Nat → Prop} {ad0 : Nat → Nat} {n0 : Nat} (hC : XC p s m args c c_M_differ 6 y_M_differ.cls XTs XCL XNW XAL D A) (hr : meth.sig.returnType = some .int) (hlk : meth.locks = false) (hnm : meth.name = y_M_differ.name) {k41 : Nat → Int32 → Int32 → Int32 → XH → Option (Int32 × XH)} (n : Nat) (rr : Int32) (h' : XH) (hk41 : ∀ (r0 : Nat) (x1 : Int32) (x2 : Int32) (x3 : Int32) (h1 : XH), k41 r0 x1 x2 x3 h1 = some (rr, h') → XW p l e ({ frames := 2, cells := 0, slots := 0, locals := 50 } : Room) s m args below meth c 6 XCL D A ad0 n0 0 0 (MQ below (xQc D XCL n0 ad0 A (some (.int rr)) n h') args s 0 0 A) n h1 41 [(0, .ref r0), (1, .int x1), (2, .int x2), (3, .int x3)] []) : ∀ (f : Nat) (r0 : Nat) (x1 : Int32) (x2 : Int32) (x3 : Int32) (x4 : Int32) (x5 : Int32) (h : XH) , D_M_differ_57 k41 f r0 x1 x2 x3 x4 x5 h = some (rr, h') → XW p l e ({ frames := 2, cells := 0, slots := 0, locals := 50 } : Room) s m args below meth c 6 XCL D A ad0 n0 0 0 (MQ below (xQc D XCL n0 ad0 A (some (.int rr)) n h') args s 0 0 A) n h 57 [(0, .ref r0), (1, .int x1), (2, .int x2), (3, .int x3), (4, .int x4), (5, .int x5)] [] := by
  intro f
  induction f with
  | zero =>
    intro r0 x1 x2 x3 x4 x5 h hE
    exact absurd hE (by simp [D_M_differ_57])
  | succ fu ih =>
    intro r0 x1 x2 x3 x4 x5 h hE
    simp only [D_M_differ_57] at hE
    refine xi_iload hC d_M_differ_57 5 rfl ?_
    refine xi_aload_n hC d_M_differ_59 rfl 0 rfl ?_
    obtain ⟨q2, hE1, hE⟩ := xb1_inv hE
    refine xi_get (C := R_M) (T := T_M) (N := 19) (ci := 4) (k := 13) hC rfl iws_M (by decide) xt_208 (by decide) (xgR_inv hE1) d_M_differ_60 ?_
    refine xi_iload_n hC d_M_differ_63 rfl 1 rfl ?_
    obtain ⟨v3, hE4, hE⟩ := xb1_inv hE
    refine xi_iald hC hE4 d_M_differ_64 ?_
    refine xi_icmp_ge (tgt := 97) hC d_M_differ_65 (by decide) (fun hz5 => ?_) (fun hz5 => ?_)
    · rw [if_pos hz5] at hE
      refine xi_iload_n hC d_M_differ_97 rfl 2 rfl ?_
      refine xi_iload hC d_M_differ_98 4 rfl ?_
      refine xi_if_eq (tgt := 107) hC d_M_differ_100 (by decide) (fun hz6 => ?_) (fun hz6 => ?_)
      · rw [if_pos hz6] at hE
        refine xi_iconst (v := (1 : Int32)) hC d_M_differ_107 (by decide) ?_
        refine xi_locs (lv' := [(0, .ref r0), (1, .int x1), (3, .int x3)]) [0, 1, 3] rfl ?_
        exact s_M_differ_108 hC hr hlk hnm _ _ _ hk41 _ _ _ _ _ _ hE
      · rw [if_neg hz6] at hE
        refine xi_iconst (v := (0 : Int32)) hC d_M_differ_103 (by decide) ?_
        refine xi_goto (tgt := 108) hC d_M_differ_104 (by decide) ?_
        refine xi_locs (lv' := [(0, .ref r0), (1, .int x1), (3, .int x3)]) [0, 1, 3] rfl ?_
        exact s_M_differ_108 hC hr hlk hnm _ _ _ hk41 _ _ _ _ _ _ hE
    · rw [if_neg hz5] at hE
      refine xi_iload hC d_M_differ_68 4 rfl ?_
      refine xi_if_ne (tgt := 84) hC d_M_differ_70 (by decide) (fun hz7 => ?_) (fun hz7 => ?_)
      · rw [if_neg hz7] at hE
        refine xi_locs (lv' := [(0, .ref r0), (1, .int x1), (2, .int x2), (3, .int x3), (5, .int x5)]) [0, 1, 2, 3, 5] rfl ?_
        exact s_M_differ_84 hC hr hlk hnm _ _ _ hk41 (fun y0 y1 y2 y3 y4 y5 h1 z => ih y0 y1 y2 y3 y4 y5 h1 z) _ _ _ _ _ _ hE
      · rw [if_pos hz7] at hE
        refine xi_aload_n hC d_M_differ_73 rfl 0 rfl ?_
        refine xi_iload_n hC d_M_differ_74 rfl 3 rfl ?_
        refine xi_iload_n hC d_M_differ_75 rfl 1 rfl ?_
        refine xi_iload hC d_M_differ_76 5 rfl ?_
        obtain ⟨hI10, hE⟩ := xchk_inv hE
        obtain ⟨v8, hE9, hE⟩ := xb1_inv hE
        refine xi_callV (as := [.int x3, .int x1, .int x5]) (st := []) (C := R_M) (T := T_M) (N := 19) hC (x_M_isSame hE9) rfl (by decide) hI10 xt_280 xt_281 xt_282 xt_218 xt_279 ⟨by decide, by decide, (by decide +kernel : (parseMethodDescriptor y_M_isSame.desc).map (fun d => d.parameters.length) = some 3)⟩ rfl rfl ⟨by decide, by decide⟩ ⟨by decide, by decide⟩ (Nat.le_of_ble_eq_true rfl) rfl d_M_differ_78 ?_
        refine xi_stk (st' := [.int v8]) rfl ?_
        refine xi_if_eq (tgt := 88) hC d_M_differ_81 (by decide) (fun hz11 => ?_) (fun hz11 => ?_)
        · rw [if_pos hz11] at hE
          refine xi_iconst (v := (0 : Int32)) hC d_M_differ_88 (by decide) ?_
          refine xi_locs (lv' := [(0, .ref r0), (1, .int x1), (2, .int x2), (3, .int x3), (5, .int x5)]) [0, 1, 2, 3, 5] rfl ?_
          exact s_M_differ_89 hC hr hlk hnm _ _ _ hk41 (fun y0 y1 y2 y3 y4 y5 h1 z => ih y0 y1 y2 y3 y4 y5 h1 z) _ _ _ _ _ _ _ hE
        · rw [if_neg hz11] at hE
          refine xi_locs (lv' := [(0, .ref r0), (1, .int x1), (2, .int x2), (3, .int x3), (5, .int x5)]) [0, 1, 2, 3, 5] rfl ?_
          exact s_M_differ_84 hC hr hlk hnm _ _ _ hk41 (fun y0 y1 y2 y3 y4 y5 h1 z => ih y0 y1 y2 y3 y4 y5 h1 z) _ _ _ _ _ _ hE
set_option maxRecDepth 100000 in
set_option maxHeartbeats 4000000 in
theorem s_M_differ_41 {p : Program} {l : Launch} {e : Env} {s : State} {m : MethodId} {args : Array Value} {below : List Frame} {meth : Method} {c : Code} {D : va_G} {A : Nat → Prop} {ad0 : Nat → Nat} {n0 : Nat} (hC : XC p s m args c c_M_differ 6 y_M_differ.cls XTs XCL XNW XAL D A) (hr : meth.sig.returnType = some .int) (hlk : meth.locks = false) (hnm : meth.name = y_M_differ.name)   : ∀ (f : Nat) (r0 : Nat) (x1 : Int32) (x2 : Int32) (x3 : Int32) (n : Nat) (h : XH) (rr : Int32) (h' : XH), D_M_differ_41  f r0 x1 x2 x3 h = some (rr, h') → XW p l e ({ frames := 2, cells := 0, slots := 0, locals := 50 } : Room) s m args below meth c 6 XCL D A ad0 n0 0 0 (MQ below (xQc D XCL n0 ad0 A (some (.int rr)) n h') args s 0 0 A) n h 41 [(0, .ref r0), (1, .int x1), (2, .int x2), (3, .int x3)] [] := by
  intro f
  induction f with
  | zero =>
    intro r0 x1 x2 x3 n h rr h' hE
    exact absurd hE (by simp [D_M_differ_41])
  | succ fu ih =>
    intro r0 x1 x2 x3 n h rr h' hE
    simp only [D_M_differ_41] at hE
    refine xi_iload_n hC d_M_differ_41 rfl 3 rfl ?_
    refine xi_aload_n hC d_M_differ_42 rfl 0 rfl ?_
    obtain ⟨q2, hE1, hE⟩ := xb1_inv hE
    refine xi_get (C := R_M) (T := T_M) (N := 19) (ci := 4) (k := 13) hC rfl iws_M (by decide) xt_208 (by decide) (xgR_inv hE1) d_M_differ_43 ?_
    refine xi_iconst (v := (0 : Int32)) hC d_M_differ_46 (by decide) ?_
    obtain ⟨v3, hE4, hE⟩ := xb1_inv hE
    refine xi_iald hC hE4 d_M_differ_47 ?_
    refine xi_icmp_ge (tgt := 116) hC d_M_differ_48 (by decide) (fun hz5 => ?_) (fun hz5 => ?_)
    · rw [if_pos hz5] at hE
      refine xi_iload_n hC d_M_differ_116 rfl 2 rfl ?_
      cases hE
      exact xi_iret hC hr hlk d_M_differ_117
    · rw [if_neg hz5] at hE
      refine xi_iconst (v := (0 : Int32)) hC d_M_differ_51 (by decide) ?_
      refine xi_istore (lv' := [(4, .int (0 : Int32)), (0, .ref r0), (1, .int x1), (2, .int x2), (3, .int x3)]) hC d_M_differ_52 (by decide) rfl ?_
      refine xi_iconst (v := (0 : Int32)) hC d_M_differ_54 (by decide) ?_
      refine xi_istore (lv' := [(5, .int (0 : Int32)), (4, .int (0 : Int32)), (0, .ref r0), (1, .int x1), (2, .int x2), (3, .int x3)]) hC d_M_differ_55 (by decide) rfl ?_
      refine xi_locs (lv' := [(0, .ref r0), (1, .int x1), (2, .int x2), (3, .int x3), (4, .int (0 : Int32)), (5, .int (0 : Int32))]) [2, 3, 4, 5, 1, 0] rfl ?_
      exact s_M_differ_57 hC hr hlk hnm _ _ _ (fun y0 y1 y2 y3 h1 z => ih y0 y1 y2 y3 _ h1 _ _ z) 5000 _ _ _ _ _ _ _ hE
set_option maxRecDepth 100000 in
set_option maxHeartbeats 4000000 in
theorem s_M_differ_35 {p : Program} {l : Launch} {e : Env} {s : State} {m : MethodId} {args : Array Value} {below : List Frame} {meth : Method} {c : Code} {D : va_G} {A : Nat → Prop} {ad0 : Nat → Nat} {n0 : Nat} (hC : XC p s m args c c_M_differ 6 y_M_differ.cls XTs XCL XNW XAL D A) (hr : meth.sig.returnType = some .int) (hlk : meth.locks = false) (hnm : meth.name = y_M_differ.name)    (n : Nat) (h : XH) (rr : Int32) (h' : XH) (hE : D_M_differ_35   h = some (rr, h')) : XW p l e ({ frames := 2, cells := 0, slots := 0, locals := 50 } : Room) s m args below meth c 6 XCL D A ad0 n0 0 0 (MQ below (xQc D XCL n0 ad0 A (some (.int rr)) n h') args s 0 0 A) n h 35 [] [] := by
  unfold D_M_differ_35 at hE
  refine xi_iconst (v := (-1 : Int32)) hC d_M_differ_35 (by decide) ?_
  cases hE
  exact xi_iret hC hr hlk d_M_differ_36
set_option maxRecDepth 100000 in
set_option maxHeartbeats 4000000 in
theorem s_M_differ_0 {p : Program} {l : Launch} {e : Env} {s : State} {m : MethodId} {args : Array Value} {below : List Frame} {meth : Method} {c : Code} {D : va_G} {A : Nat → Prop} {ad0 : Nat → Nat} {n0 : Nat} (hC : XC p s m args c c_M_differ 6 y_M_differ.cls XTs XCL XNW XAL D A) (hr : meth.sig.returnType = some .int) (hlk : meth.locks = false) (hnm : meth.name = y_M_differ.name)   (r0 : Nat) (x1 : Int32) (n : Nat) (h : XH) (rr : Int32) (h' : XH) (hE : D_M_differ_0  r0 x1 h = some (rr, h')) : XW p l e ({ frames := 2, cells := 0, slots := 0, locals := 50 } : Room) s m args below meth c 6 XCL D A ad0 n0 0 0 (MQ below (xQc D XCL n0 ad0 A (some (.int rr)) n h') args s 0 0 A) n h 0 [(0, .ref r0), (1, .int x1)] [] := by
  unfold D_M_differ_0 at hE
  refine xi_aload_n hC d_M_differ_0 rfl 0 rfl ?_
  refine xi_iconst (v := (0 : Int32)) hC d_M_differ_1 (by decide) ?_
  obtain ⟨h1, hE2, hE⟩ := xb1_inv hE
  refine xi_put (C := R_M) (T := T_M) (N := 19) (ci := 4) (k := 0) hC ty_M rfl iws_M tok_M nok_M (by decide) xt_219 (by decide) rfl (fun _ => rfl) (fun _ => rfl) hE2 d_M_differ_2 ?_
  refine xi_aload_n hC d_M_differ_5 rfl 0 rfl ?_
  obtain ⟨v4, hE3, hE⟩ := xb1_inv hE
  refine xi_get (C := R_M) (T := T_M) (N := 19) (ci := 4) (k := 11) hC rfl iws_M (by decide) xt_223 (by decide) (xgI_inv hE3) d_M_differ_6 ?_
  refine xi_if_ne (tgt := 15) hC d_M_differ_9 (by decide) (fun hz5 => ?_) (fun hz5 => ?_)
  · rw [if_neg hz5] at hE
    refine xi_iload_n hC d_M_differ_15 rfl 1 rfl ?_
    refine xi_i2l hC d_M_differ_16 ?_
    refine xi_lconst (v := (1 : Int64)) hC d_M_differ_17 (by decide) ?_
    refine xi_aload_n hC d_M_differ_18 rfl 0 rfl ?_
    obtain ⟨v7, hE6, hE⟩ := xb1_inv hE
    refine xi_get (C := R_M) (T := T_M) (N := 19) (ci := 4) (k := 12) hC rfl iws_M (by decide) xt_250 (by decide) (xgI_inv hE6) d_M_differ_19 ?_
    refine xi_i2l hC d_M_differ_22 ?_
    obtain ⟨v8, hE9, hE⟩ := xb1_inv hE
    refine xi_callS (as := [.long (x1.toInt64), .long (1 : Int64), .long (v7.toInt64)]) (st := []) hC (x_M_isIn hE9) xt_216 xt_217 xt_218 xt_215 ⟨by decide, by decide, (by decide +kernel : (parseMethodDescriptor y_M_isIn.desc).map (fun d => d.parameters.length) = some 3)⟩ rfl rfl ⟨by decide, by decide⟩ ⟨by decide, by decide⟩ (Nat.le_of_ble_eq_true rfl) rfl d_M_differ_23 ?_
    refine xi_stk (st' := [.int v8]) rfl ?_
    refine xi_if_eq (tgt := 35) hC d_M_differ_26 (by decide) (fun hz10 => ?_) (fun hz10 => ?_)
    · rw [if_pos hz10] at hE
      refine xi_locs (lv' := []) [] rfl ?_
      exact s_M_differ_35 hC hr hlk hnm _ _ _ _ hE
    · rw [if_neg hz10] at hE
      refine xi_iload_n hC d_M_differ_29 rfl 1 rfl ?_
      refine xi_bipush (v := (40 : Int32)) hC d_M_differ_30 (by decide) ?_
      refine xi_icmp_le (tgt := 37) hC d_M_differ_32 (by decide) (fun hz11 => ?_) (fun hz11 => ?_)
      · rw [if_pos hz11] at hE
        refine xi_iconst (v := (0 : Int32)) hC d_M_differ_37 (by decide) ?_
        refine xi_istore_n (lv' := [(2, .int (0 : Int32)), (0, .ref r0), (1, .int x1)]) hC d_M_differ_38 rfl (by decide) rfl ?_
        refine xi_iconst (v := (0 : Int32)) hC d_M_differ_39 (by decide) ?_
        refine xi_istore_n (lv' := [(3, .int (0 : Int32)), (2, .int (0 : Int32)), (0, .ref r0), (1, .int x1)]) hC d_M_differ_40 rfl (by decide) rfl ?_
        refine xi_locs (lv' := [(0, .ref r0), (1, .int x1), (2, .int (0 : Int32)), (3, .int (0 : Int32))]) [2, 3, 1, 0] rfl ?_
        exact s_M_differ_41 hC hr hlk hnm 5000 _ _ _ _ _ _ _ _ hE
      · rw [if_neg hz11] at hE
        refine xi_locs (lv' := []) [] rfl ?_
        exact s_M_differ_35 hC hr hlk hnm _ _ _ _ hE
  · rw [if_pos hz5] at hE
    refine xi_bipush (v := (-3 : Int32)) hC d_M_differ_12 (by decide) ?_
    cases hE
    exact xi_iret hC hr hlk d_M_differ_14
set_option maxRecDepth 100000 in
theorem x_M_differ {l : Launch} {D : va_G} {r0 : Nat} {x1 : Int32} {n : Nat} {h : XH} {rr : Int32} {h' : XH} (hE : X_M_differ r0 x1 h = some (rr, h')) : XMet l y_M_differ c_M_differ 6 (some .int) XTs XCL XNW XAL D ({ frames := 2, cells := 0, slots := 0, locals := 50 } : Room) 0 0 [.ref r0, .int x1] n h (some (.int rr)) n h' := by
  refine XMet.mk (by decide) xNW_good xTs_good (Nat.le_of_ble_eq_true rfl) ?_
  intro p e s m args below meth c A ad0 hC hr hlk hnm
  refine xi_locs (lv' := [(0, .ref r0), (1, .int x1)]) [0, 1] rfl ?_
  exact s_M_differ_0 hC hr hlk hnm _ _ n h _ _ hE


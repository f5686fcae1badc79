set_option maxRecDepth 100000 in
set_option maxHeartbeats 4000000 in
theorem s_T_ring_0 {p : Program} {l : Launch} {e : Env} {s : State} {m : MethodId} {args : Array Value} {below : List Frame} {meth : Method} {c : Code} {D : va_G} {A : Nat → Prop} {ad0 : Nat → Nat} {n0 : Nat} (hC : XC p s m args c c_T_ring 2 y_T_ring.cls XTs XCL XNW XAL D A) (hr : meth.sig.returnType = some .int) (hlk : meth.locks = false) (hnm : meth.name = y_T_ring.name)   (r0 : Nat) (x1 : Int32) (n : Nat) (h : XH) (rr : Int32)  (hE : D_T_ring_0  r0 x1 h = some rr) : XW p l e ({ frames := 1, cells := 0, slots := 0, locals := 21 } : Room) s m args below meth c 2 XCL D A ad0 n0 0 0 (MQ below (xQc D XCL n0 ad0 A (some (.int rr)) n h) args s 0 0 A) n h 0 [(0, .ref r0), (1, .int x1)] [] := by
  unfold D_T_ring_0 at hE
  refine xi_aload_n hC d_T_ring_0 rfl 0 rfl ?_
  obtain ⟨q2, hE1, hE⟩ := xb1_inv hE
  refine xi_get (C := R_T) (T := T_T) (N := 6) (ci := 0) (k := 1) hC rfl iws_T (by decide) xt_34 (by decide) (xgR_inv hE1) d_T_ring_1 ?_
  refine xi_iload_n hC d_T_ring_4 rfl 1 rfl ?_
  obtain ⟨hI5, hE⟩ := xchk_inv hE
  obtain ⟨v3, hE4, hE⟩ := xb1_inv hE
  refine xi_callV (as := [.int x1]) (st := []) (C := R_G) (T := T_G) (N := 5) hC (x_G_toldAt hE4) rfl (by decide) hI5 xt_178 xt_179 xt_180 xt_30 xt_177 ⟨by decide, by decide, (by decide +kernel : (parseMethodDescriptor y_G_toldAt.desc).map (fun d => d.parameters.length) = some 1)⟩ rfl rfl ⟨by decide, by decide⟩ ⟨by decide, by decide⟩ (Nat.le_of_ble_eq_true rfl) rfl d_T_ring_5 ?_
  refine xi_stk (st' := [.int v3]) rfl ?_
  cases hE
  exact xi_iret hC hr hlk d_T_ring_8
set_option maxRecDepth 100000 in
theorem x_T_ring {l : Launch} {D : va_G} {r0 : Nat} {x1 : Int32} {n : Nat} {h : XH} {rr : Int32}  (hE : X_T_ring r0 x1 h = some rr) : XMet l y_T_ring c_T_ring 2 (some .int) XTs XCL XNW XAL D ({ frames := 1, cells := 0, slots := 0, locals := 21 } : Room) 0 0 [.ref r0, .int x1] n h (some (.int rr)) n h := by
  refine XMet.mk (by decide) xNW_good xTs_good (Nat.le_of_ble_eq_true rfl) ?_
  intro p e s m args below meth c A ad0 hC hr hlk hnm
  refine xi_locs (lv' := [(0, .ref r0), (1, .int x1)]) [0, 1] rfl ?_
  exact s_T_ring_0 hC hr hlk hnm _ _ n h _ hE

set_option maxRecDepth 100000 in
set_option maxHeartbeats 4000000 in
theorem s_U_copiesAcross_121 {p : Program} {l : Launch} {e : Env} {s : State} {m : MethodId} {args : Array Value} {below : List Frame} {meth : Method} {c : Code} {D : va_G} {A : Nat → Prop} {ad0 : Nat → Nat} {n0 : Nat} (hC : XC p s m args c c_U_copiesAcross 7 y_U_copiesAcross.cls XTs XCL XNW XAL D A) (hr : meth.sig.returnType = some .int) (hlk : meth.locks = false) (hnm : meth.name = y_U_copiesAcross.name) {k80 : Int32 → Int32 → Int32 → Int32 → XH → Option (Int32)} (n : Nat) (h : XH) (rr : Int32)  (hk80 : ∀ (x2 : Int32) (x3 : Int32) (x4 : Int32) (x5 : Int32), k80 x2 x3 x4 x5 h = some rr → XW p l e ({ frames := 1, cells := 0, slots := 0, locals := 21 } : Room) s m args below meth c 7 XCL D A ad0 n0 0 0 (MQ below (xQc D XCL n0 ad0 A (some (.int rr)) n h) args s 0 0 A) n h 80 [(2, .int x2), (3, .int x3), (4, .int x4), (5, .int x5)] []) (x2 : Int32) (x3 : Int32) (x4 : Int32) (x5 : Int32)  (hE : D_U_copiesAcross_121 k80 x2 x3 x4 x5 h = some rr) : XW p l e ({ frames := 1, cells := 0, slots := 0, locals := 21 } : Room) s m args below meth c 7 XCL D A ad0 n0 0 0 (MQ below (xQc D XCL n0 ad0 A (some (.int rr)) n h) args s 0 0 A) n h 121 [(2, .int x2), (3, .int x3), (4, .int x4), (5, .int x5)] [] := by
  unfold D_U_copiesAcross_121 at hE
  refine xi_iinc (v := x5 + 1) (lv' := [(5, .int (x5 + 1)), (2, .int x2), (3, .int x3), (4, .int x4)]) hC d_U_copiesAcross_121 3 rfl rfl (by decide) rfl ?_
  refine xi_goto (tgt := 80) hC d_U_copiesAcross_124 (by decide) ?_
  refine xi_locs (lv' := [(2, .int x2), (3, .int x3), (4, .int x4), (5, .int (x5 + 1))]) [1, 2, 3, 0] rfl ?_
  exact hk80 _ _ _ _ hE
set_option maxRecDepth 100000 in
set_option maxHeartbeats 4000000 in
theorem s_U_copiesAcross_102 {p : Program} {l : Launch} {e : Env} {s : State} {m : MethodId} {args : Array Value} {below : List Frame} {meth : Method} {c : Code} {D : va_G} {A : Nat → Prop} {ad0 : Nat → Nat} {n0 : Nat} (hC : XC p s m args c c_U_copiesAcross 7 y_U_copiesAcross.cls XTs XCL XNW XAL D A) (hr : meth.sig.returnType = some .int) (hlk : meth.locks = false) (hnm : meth.name = y_U_copiesAcross.name) {k80 : Int32 → Int32 → Int32 → Int32 → XH → Option (Int32)} (n : Nat) (h : XH) (rr : Int32)  (hk80 : ∀ (x2 : Int32) (x3 : Int32) (x4 : Int32) (x5 : Int32), k80 x2 x3 x4 x5 h = some rr → XW p l e ({ frames := 1, cells := 0, slots := 0, locals := 21 } : Room) s m args below meth c 7 XCL D A ad0 n0 0 0 (MQ below (xQc D XCL n0 ad0 A (some (.int rr)) n h) args s 0 0 A) n h 80 [(2, .int x2), (3, .int x3), (4, .int x4), (5, .int x5)] []) (x2 : Int32) (x3 : Int32) (x4 : Int32) (x5 : Int32) (s0 : Int32)  (hE : D_U_copiesAcross_102 k80 x2 x3 x4 x5 s0 h = some rr) : XW p l e ({ frames := 1, cells := 0, slots := 0, locals := 21 } : Room) s m args below meth c 7 XCL D A ad0 n0 0 0 (MQ below (xQc D XCL n0 ad0 A (some (.int rr)) n h) args s 0 0 A) n h 102 [(2, .int x2), (3, .int x3), (4, .int x4), (5, .int x5)] [.int s0] := by
  unfold D_U_copiesAcross_102 at hE
  refine xi_istore (lv' := [(6, .int s0), (2, .int x2), (3, .int x3), (4, .int x4), (5, .int x5)]) hC d_U_copiesAcross_102 (by decide) rfl ?_
  refine xi_iload_n hC d_U_copiesAcross_104 rfl 1 rfl ?_
  refine xi_iload hC d_U_copiesAcross_105 4 rfl ?_
  obtain ⟨v1, hE2, hE⟩ := xb1_inv hE
  refine xi_callSN (as := [.int x2, .int x5]) (st := []) hC (x_T_isIn hE2) xn_11 xt_59 xt_47 xt_58 ⟨by decide, by decide, (by decide +kernel : (parseMethodDescriptor y_T_isIn.desc).map (fun d => d.parameters.length) = some 2)⟩ rfl rfl ⟨by decide, by decide⟩ ⟨by decide, by decide⟩ (Nat.le_of_ble_eq_true rfl) rfl d_U_copiesAcross_107 ?_
  refine xi_stk (st' := [.int v1]) rfl ?_
  refine xi_if_eq (tgt := 121) hC d_U_copiesAcross_110 (by decide) (fun hz3 => ?_) (fun hz3 => ?_)
  · rw [if_pos hz3] at hE
    refine xi_locs (lv' := [(2, .int x2), (3, .int x3), (4, .int x4), (5, .int x5)]) [1, 2, 3, 4] rfl ?_
    exact s_U_copiesAcross_121 hC hr hlk hnm _ _ _ hk80 _ _ _ _ hE
  · rw [if_neg hz3] at hE
    refine xi_iload hC d_U_copiesAcross_113 0 rfl ?_
    refine xi_if_eq (tgt := 121) hC d_U_copiesAcross_115 (by decide) (fun hz4 => ?_) (fun hz4 => ?_)
    · rw [if_pos hz4] at hE
      refine xi_locs (lv' := [(2, .int x2), (3, .int x3), (4, .int x4), (5, .int x5)]) [1, 2, 3, 4] rfl ?_
      exact s_U_copiesAcross_121 hC hr hlk hnm _ _ _ hk80 _ _ _ _ hE
    · rw [if_neg hz4] at hE
      refine xi_iinc (v := x4 + 1) (lv' := [(4, .int (x4 + 1)), (6, .int s0), (2, .int x2), (3, .int x3), (5, .int x5)]) hC d_U_copiesAcross_118 3 rfl rfl (by decide) rfl ?_
      refine xi_locs (lv' := [(2, .int x2), (3, .int x3), (4, .int (x4 + 1)), (5, .int x5)]) [2, 3, 0, 4] rfl ?_
      exact s_U_copiesAcross_121 hC hr hlk hnm _ _ _ hk80 _ _ _ _ hE
set_option maxRecDepth 100000 in
set_option maxHeartbeats 4000000 in
theorem s_U_copiesAcross_80 {p : Program} {l : Launch} {e : Env} {s : State} {m : MethodId} {args : Array Value} {below : List Frame} {meth : Method} {c : Code} {D : va_G} {A : Nat → Prop} {ad0 : Nat → Nat} {n0 : Nat} (hC : XC p s m args c c_U_copiesAcross 7 y_U_copiesAcross.cls XTs XCL XNW XAL D A) (hr : meth.sig.returnType = some .int) (hlk : meth.locks = false) (hnm : meth.name = y_U_copiesAcross.name)   : ∀ (f : Nat) (x2 : Int32) (x3 : Int32) (x4 : Int32) (x5 : Int32) (n : Nat) (h : XH) (rr : Int32) , D_U_copiesAcross_80  f x2 x3 x4 x5 h = some rr → XW p l e ({ frames := 1, cells := 0, slots := 0, locals := 21 } : Room) s m args below meth c 7 XCL D A ad0 n0 0 0 (MQ below (xQc D XCL n0 ad0 A (some (.int rr)) n h) args s 0 0 A) n h 80 [(2, .int x2), (3, .int x3), (4, .int x4), (5, .int x5)] [] := by
  intro f
  induction f with
  | zero =>
    intro x2 x3 x4 x5 n h rr hE
    exact absurd hE (by simp [D_U_copiesAcross_80])
  | succ fu ih =>
    intro x2 x3 x4 x5 n h rr hE
    simp only [D_U_copiesAcross_80] at hE
    refine xi_iload hC d_U_copiesAcross_80 3 rfl ?_
    refine xi_iconst (v := (4 : Int32)) hC d_U_copiesAcross_82 (by decide) ?_
    refine xi_icmp_gt (tgt := 127) hC d_U_copiesAcross_83 (by decide) (fun hz1 => ?_) (fun hz1 => ?_)
    · rw [if_pos hz1] at hE
      refine xi_iload hC d_U_copiesAcross_127 2 rfl ?_
      cases hE
      exact xi_iret hC hr hlk d_U_copiesAcross_129
    · rw [if_neg hz1] at hE
      refine xi_iload_n hC d_U_copiesAcross_86 rfl 1 rfl ?_
      refine xi_iconst (v := (1 : Int32)) hC d_U_copiesAcross_87 (by decide) ?_
      refine xi_iload hC d_U_copiesAcross_88 3 rfl ?_
      refine xi_ishl hC d_U_copiesAcross_90 ?_
      refine xi_iconst (v := (-1 : Int32)) hC d_U_copiesAcross_91 (by decide) ?_
      refine xi_ixor hC d_U_copiesAcross_92 ?_
      refine xi_iand hC d_U_copiesAcross_93 ?_
      refine xi_if_eq (tgt := 101) hC d_U_copiesAcross_94 (by decide) (fun hz2 => ?_) (fun hz2 => ?_)
      · rw [if_pos hz2] at hE
        refine xi_iconst (v := (0 : Int32)) hC d_U_copiesAcross_101 (by decide) ?_
        refine xi_locs (lv' := [(2, .int x2), (3, .int x3), (4, .int x4), (5, .int x5)]) [0, 1, 2, 3] rfl ?_
        exact s_U_copiesAcross_102 hC hr hlk hnm _ _ _ (fun y0 y1 y2 y3 z => ih y0 y1 y2 y3 _ _ _ z) _ _ _ _ _ hE
      · rw [if_neg hz2] at hE
        refine xi_iconst (v := (1 : Int32)) hC d_U_copiesAcross_97 (by decide) ?_
        refine xi_goto (tgt := 102) hC d_U_copiesAcross_98 (by decide) ?_
        refine xi_locs (lv' := [(2, .int x2), (3, .int x3), (4, .int x4), (5, .int x5)]) [0, 1, 2, 3] rfl ?_
        exact s_U_copiesAcross_102 hC hr hlk hnm _ _ _ (fun y0 y1 y2 y3 z => ih y0 y1 y2 y3 _ _ _ z) _ _ _ _ _ hE
set_option maxRecDepth 100000 in
set_option maxHeartbeats 4000000 in
theorem s_U_copiesAcross_68 {p : Program} {l : Launch} {e : Env} {s : State} {m : MethodId} {args : Array Value} {below : List Frame} {meth : Method} {c : Code} {D : va_G} {A : Nat → Prop} {ad0 : Nat → Nat} {n0 : Nat} (hC : XC p s m args c c_U_copiesAcross 7 y_U_copiesAcross.cls XTs XCL XNW XAL D A) (hr : meth.sig.returnType = some .int) (hlk : meth.locks = false) (hnm : meth.name = y_U_copiesAcross.name) {k7 : Nat → Int32 → Int32 → Int32 → Int32 → XH → Option (Int32)} (n : Nat) (h : XH) (rr : Int32)  (hk7 : ∀ (r0 : Nat) (x1 : Int32) (x2 : Int32) (x3 : Int32) (x4 : Int32), k7 r0 x1 x2 x3 x4 h = some rr → XW p l e ({ frames := 1, cells := 0, slots := 0, locals := 21 } : Room) s m args below meth c 7 XCL D A ad0 n0 0 0 (MQ below (xQc D XCL n0 ad0 A (some (.int rr)) n h) args s 0 0 A) n h 7 [(0, .ref r0), (1, .int x1), (2, .int x2), (3, .int x3), (4, .int x4)] []) (r0 : Nat) (x1 : Int32) (x2 : Int32) (x3 : Int32) (x4 : Int32)  (hE : D_U_copiesAcross_68 k7 r0 x1 x2 x3 x4 h = some rr) : XW p l e ({ frames := 1, cells := 0, slots := 0, locals := 21 } : Room) s m args below meth c 7 XCL D A ad0 n0 0 0 (MQ below (xQc D XCL n0 ad0 A (some (.int rr)) n h) args s 0 0 A) n h 68 [(0, .ref r0), (1, .int x1), (2, .int x2), (3, .int x3), (4, .int x4)] [] := by
  unfold D_U_copiesAcross_68 at hE
  refine xi_iinc (v := x4 + 1) (lv' := [(4, .int (x4 + 1)), (0, .ref r0), (1, .int x1), (2, .int x2), (3, .int x3)]) hC d_U_copiesAcross_68 4 rfl rfl (by decide) rfl ?_
  refine xi_goto (tgt := 7) hC d_U_copiesAcross_71 (by decide) ?_
  refine xi_locs (lv' := [(0, .ref r0), (1, .int x1), (2, .int x2), (3, .int x3), (4, .int (x4 + 1))]) [1, 2, 3, 4, 0] rfl ?_
  exact hk7 _ _ _ _ _ hE
set_option maxRecDepth 100000 in
set_option maxHeartbeats 4000000 in
theorem s_U_copiesAcross_42 {p : Program} {l : Launch} {e : Env} {s : State} {m : MethodId} {args : Array Value} {below : List Frame} {meth : Method} {c : Code} {D : va_G} {A : Nat → Prop} {ad0 : Nat → Nat} {n0 : Nat} (hC : XC p s m args c c_U_copiesAcross 7 y_U_copiesAcross.cls XTs XCL XNW XAL D A) (hr : meth.sig.returnType = some .int) (hlk : meth.locks = false) (hnm : meth.name = y_U_copiesAcross.name) {k7 : Nat → Int32 → Int32 → Int32 → Int32 → XH → Option (Int32)} (n : Nat) (h : XH) (rr : Int32)  (hk7 : ∀ (r0 : Nat) (x1 : Int32) (x2 : Int32) (x3 : Int32) (x4 : Int32), k7 r0 x1 x2 x3 x4 h = some rr → XW p l e ({ frames := 1, cells := 0, slots := 0, locals := 21 } : Room) s m args below meth c 7 XCL D A ad0 n0 0 0 (MQ below (xQc D XCL n0 ad0 A (some (.int rr)) n h) args s 0 0 A) n h 7 [(0, .ref r0), (1, .int x1), (2, .int x2), (3, .int x3), (4, .int x4)] []) (r0 : Nat) (x1 : Int32) (x2 : Int32) (x3 : Int32) (x4 : Int32)  (hE : D_U_copiesAcross_42 k7 r0 x1 x2 x3 x4 h = some rr) : XW p l e ({ frames := 1, cells := 0, slots := 0, locals := 21 } : Room) s m args below meth c 7 XCL D A ad0 n0 0 0 (MQ below (xQc D XCL n0 ad0 A (some (.int rr)) n h) args s 0 0 A) n h 42 [(0, .ref r0), (1, .int x1), (2, .int x2), (3, .int x3), (4, .int x4)] [] := by
  unfold D_U_copiesAcross_42 at hE
  refine xi_aload_n hC d_U_copiesAcross_42 rfl 0 rfl ?_
  obtain ⟨q2, hE1, hE⟩ := xb1_inv hE
  refine xi_get (C := R_U) (T := T_U) (N := 6) (ci := 1) (k := 5) hC rfl iws_U (by decide) xt_8 (by decide) (xgR_inv hE1) d_U_copiesAcross_43 ?_
  refine xi_iload hC d_U_copiesAcross_46 4 rfl ?_
  obtain ⟨v3, hE4, hE⟩ := xb1_inv hE
  refine xi_iald hC hE4 d_U_copiesAcross_48 ?_
  refine xi_iload_n hC d_U_copiesAcross_49 rfl 1 rfl ?_
  obtain ⟨v5, hE6, hE⟩ := xb1_inv hE
  refine xi_callSN (as := [.int v3, .int x1]) (st := []) hC (x_T_isIn hE6) xn_11 xt_59 xt_47 xt_58 ⟨by decide, by decide, (by decide +kernel : (parseMethodDescriptor y_T_isIn.desc).map (fun d => d.parameters.length) = some 2)⟩ rfl rfl ⟨by decide, by decide⟩ ⟨by decide, by decide⟩ (Nat.le_of_ble_eq_true rfl) rfl d_U_copiesAcross_50 ?_
  refine xi_stk (st' := [.int v5]) rfl ?_
  refine xi_if_eq (tgt := 68) hC d_U_copiesAcross_53 (by decide) (fun hz7 => ?_) (fun hz7 => ?_)
  · rw [if_pos hz7] at hE
    refine xi_locs (lv' := [(0, .ref r0), (1, .int x1), (2, .int x2), (3, .int x3), (4, .int x4)]) [0, 1, 2, 3, 4] rfl ?_
    exact s_U_copiesAcross_68 hC hr hlk hnm _ _ _ hk7 _ _ _ _ _ hE
  · rw [if_neg hz7] at hE
    refine xi_iload_n hC d_U_copiesAcross_56 rfl 3 rfl ?_
    refine xi_iconst (v := (1 : Int32)) hC d_U_copiesAcross_57 (by decide) ?_
    refine xi_aload_n hC d_U_copiesAcross_58 rfl 0 rfl ?_
    obtain ⟨q9, hE8, hE⟩ := xb1_inv hE
    refine xi_get (C := R_U) (T := T_U) (N := 6) (ci := 1) (k := 2) hC rfl iws_U (by decide) xt_5 (by decide) (xgR_inv hE8) d_U_copiesAcross_59 ?_
    refine xi_iload hC d_U_copiesAcross_62 4 rfl ?_
    obtain ⟨v10, hE11, hE⟩ := xb1_inv hE
    refine xi_iald hC hE11 d_U_copiesAcross_64 ?_
    refine xi_ishl hC d_U_copiesAcross_65 ?_
    refine xi_ior hC d_U_copiesAcross_66 ?_
    refine xi_istore_n (lv' := [(3, .int (x3 ||| ((1 : Int32) <<< (v10 &&& 31)))), (0, .ref r0), (1, .int x1), (2, .int x2), (4, .int x4)]) hC d_U_copiesAcross_67 rfl (by decide) rfl ?_
    refine xi_locs (lv' := [(0, .ref r0), (1, .int x1), (2, .int x2), (3, .int (x3 ||| ((1 : Int32) <<< (v10 &&& 31)))), (4, .int x4)]) [1, 2, 3, 0, 4] rfl ?_
    exact s_U_copiesAcross_68 hC hr hlk hnm _ _ _ hk7 _ _ _ _ _ hE
set_option maxRecDepth 100000 in
set_option maxHeartbeats 4000000 in
theorem s_U_copiesAcross_7 {p : Program} {l : Launch} {e : Env} {s : State} {m : MethodId} {args : Array Value} {below : List Frame} {meth : Method} {c : Code} {D : va_G} {A : Nat → Prop} {ad0 : Nat → Nat} {n0 : Nat} (hC : XC p s m args c c_U_copiesAcross 7 y_U_copiesAcross.cls XTs XCL XNW XAL D A) (hr : meth.sig.returnType = some .int) (hlk : meth.locks = false) (hnm : meth.name = y_U_copiesAcross.name)   : ∀ (f : Nat) (r0 : Nat) (x1 : Int32) (x2 : Int32) (x3 : Int32) (x4 : Int32) (n : Nat) (h : XH) (rr : Int32) , D_U_copiesAcross_7  f r0 x1 x2 x3 x4 h = some rr → XW p l e ({ frames := 1, cells := 0, slots := 0, locals := 21 } : Room) s m args below meth c 7 XCL D A ad0 n0 0 0 (MQ below (xQc D XCL n0 ad0 A (some (.int rr)) n h) args s 0 0 A) n h 7 [(0, .ref r0), (1, .int x1), (2, .int x2), (3, .int x3), (4, .int x4)] [] := by
  intro f
  induction f with
  | zero =>
    intro r0 x1 x2 x3 x4 n h rr hE
    exact absurd hE (by simp [D_U_copiesAcross_7])
  | succ fu ih =>
    intro r0 x1 x2 x3 x4 n h rr hE
    simp only [D_U_copiesAcross_7] at hE
    refine xi_iload hC d_U_copiesAcross_7 4 rfl ?_
    refine xi_aload_n hC d_U_copiesAcross_9 rfl 0 rfl ?_
    obtain ⟨v2, hE1, hE⟩ := xb1_inv hE
    refine xi_get (C := R_U) (T := T_U) (N := 6) (ci := 1) (k := 0) hC rfl iws_U (by decide) xt_43 (by decide) (xgI_inv hE1) d_U_copiesAcross_10 ?_
    refine xi_icmp_gt (tgt := 74) hC d_U_copiesAcross_13 (by decide) (fun hz3 => ?_) (fun hz3 => ?_)
    · rw [if_pos hz3] at hE
      refine xi_iconst (v := (0 : Int32)) hC d_U_copiesAcross_74 (by decide) ?_
      refine xi_istore (lv' := [(4, .int (0 : Int32)), (0, .ref r0), (1, .int x1), (2, .int x2), (3, .int x3)]) hC d_U_copiesAcross_75 (by decide) rfl ?_
      refine xi_iconst (v := (1 : Int32)) hC d_U_copiesAcross_77 (by decide) ?_
      refine xi_istore (lv' := [(5, .int (1 : Int32)), (4, .int (0 : Int32)), (0, .ref r0), (1, .int x1), (2, .int x2), (3, .int x3)]) hC d_U_copiesAcross_78 (by decide) rfl ?_
      refine xi_locs (lv' := [(2, .int x2), (3, .int x3), (4, .int (0 : Int32)), (5, .int (1 : Int32))]) [4, 5, 1, 0] rfl ?_
      exact s_U_copiesAcross_80 hC hr hlk hnm 5000 _ _ _ _ _ _ _ hE
    · rw [if_neg hz3] at hE
      refine xi_aload_n hC d_U_copiesAcross_16 rfl 0 rfl ?_
      obtain ⟨q5, hE4, hE⟩ := xb1_inv hE
      refine xi_get (C := R_U) (T := T_U) (N := 6) (ci := 1) (k := 4) hC rfl iws_U (by decide) xt_7 (by decide) (xgR_inv hE4) d_U_copiesAcross_17 ?_
      refine xi_iload hC d_U_copiesAcross_20 4 rfl ?_
      obtain ⟨v6, hE7, hE⟩ := xb1_inv hE
      refine xi_iald hC hE7 d_U_copiesAcross_22 ?_
      refine xi_iload_n hC d_U_copiesAcross_23 rfl 1 rfl ?_
      obtain ⟨v8, hE9, hE⟩ := xb1_inv hE
      refine xi_callSN (as := [.int v6, .int x1]) (st := []) hC (x_T_isIn hE9) xn_11 xt_59 xt_47 xt_58 ⟨by decide, by decide, (by decide +kernel : (parseMethodDescriptor y_T_isIn.desc).map (fun d => d.parameters.length) = some 2)⟩ rfl rfl ⟨by decide, by decide⟩ ⟨by decide, by decide⟩ (Nat.le_of_ble_eq_true rfl) rfl d_U_copiesAcross_24 ?_
      refine xi_stk (st' := [.int v8]) rfl ?_
      refine xi_if_eq (tgt := 42) hC d_U_copiesAcross_27 (by decide) (fun hz10 => ?_) (fun hz10 => ?_)
      · rw [if_pos hz10] at hE
        refine xi_locs (lv' := [(0, .ref r0), (1, .int x1), (2, .int x2), (3, .int x3), (4, .int x4)]) [0, 1, 2, 3, 4] rfl ?_
        exact s_U_copiesAcross_42 hC hr hlk hnm _ _ _ (fun y0 y1 y2 y3 y4 z => ih y0 y1 y2 y3 y4 _ _ _ z) _ _ _ _ _ hE
      · rw [if_neg hz10] at hE
        refine xi_iload_n hC d_U_copiesAcross_30 rfl 2 rfl ?_
        refine xi_iconst (v := (1 : Int32)) hC d_U_copiesAcross_31 (by decide) ?_
        refine xi_aload_n hC d_U_copiesAcross_32 rfl 0 rfl ?_
        obtain ⟨q12, hE11, hE⟩ := xb1_inv hE
        refine xi_get (C := R_U) (T := T_U) (N := 6) (ci := 1) (k := 2) hC rfl iws_U (by decide) xt_5 (by decide) (xgR_inv hE11) d_U_copiesAcross_33 ?_
        refine xi_iload hC d_U_copiesAcross_36 4 rfl ?_
        obtain ⟨v13, hE14, hE⟩ := xb1_inv hE
        refine xi_iald hC hE14 d_U_copiesAcross_38 ?_
        refine xi_ishl hC d_U_copiesAcross_39 ?_
        refine xi_ior hC d_U_copiesAcross_40 ?_
        refine xi_istore_n (lv' := [(2, .int (x2 ||| ((1 : Int32) <<< (v13 &&& 31)))), (0, .ref r0), (1, .int x1), (3, .int x3), (4, .int x4)]) hC d_U_copiesAcross_41 rfl (by decide) rfl ?_
        refine xi_locs (lv' := [(0, .ref r0), (1, .int x1), (2, .int (x2 ||| ((1 : Int32) <<< (v13 &&& 31)))), (3, .int x3), (4, .int x4)]) [1, 2, 0, 3, 4] rfl ?_
        exact s_U_copiesAcross_42 hC hr hlk hnm _ _ _ (fun y0 y1 y2 y3 y4 z => ih y0 y1 y2 y3 y4 _ _ _ z) _ _ _ _ _ hE
set_option maxRecDepth 100000 in
set_option maxHeartbeats 4000000 in
theorem s_U_copiesAcross_0 {p : Program} {l : Launch} {e : Env} {s : State} {m : MethodId} {args : Array Value} {below : List Frame} {meth : Method} {c : Code} {D : va_G} {A : Nat → Prop} {ad0 : Nat → Nat} {n0 : Nat} (hC : XC p s m args c c_U_copiesAcross 7 y_U_copiesAcross.cls XTs XCL XNW XAL D A) (hr : meth.sig.returnType = some .int) (hlk : meth.locks = false) (hnm : meth.name = y_U_copiesAcross.name)   (r0 : Nat) (x1 : Int32) (n : Nat) (h : XH) (rr : Int32)  (hE : D_U_copiesAcross_0  r0 x1 h = some rr) : XW p l e ({ frames := 1, cells := 0, slots := 0, locals := 21 } : Room) s m args below meth c 7 XCL D A ad0 n0 0 0 (MQ below (xQc D XCL n0 ad0 A (some (.int rr)) n h) args s 0 0 A) n h 0 [(0, .ref r0), (1, .int x1)] [] := by
  unfold D_U_copiesAcross_0 at hE
  refine xi_iconst (v := (0 : Int32)) hC d_U_copiesAcross_0 (by decide) ?_
  refine xi_istore_n (lv' := [(2, .int (0 : Int32)), (0, .ref r0), (1, .int x1)]) hC d_U_copiesAcross_1 rfl (by decide) rfl ?_
  refine xi_iconst (v := (0 : Int32)) hC d_U_copiesAcross_2 (by decide) ?_
  refine xi_istore_n (lv' := [(3, .int (0 : Int32)), (2, .int (0 : Int32)), (0, .ref r0), (1, .int x1)]) hC d_U_copiesAcross_3 rfl (by decide) rfl ?_
  refine xi_iconst (v := (1 : Int32)) hC d_U_copiesAcross_4 (by decide) ?_
  refine xi_istore (lv' := [(4, .int (1 : Int32)), (3, .int (0 : Int32)), (2, .int (0 : Int32)), (0, .ref r0), (1, .int x1)]) hC d_U_copiesAcross_5 (by decide) rfl ?_
  refine xi_locs (lv' := [(0, .ref r0), (1, .int x1), (2, .int (0 : Int32)), (3, .int (0 : Int32)), (4, .int (1 : Int32))]) [3, 4, 2, 1, 0] rfl ?_
  exact s_U_copiesAcross_7 hC hr hlk hnm 5000 _ _ _ _ _ _ _ _ hE
set_option maxRecDepth 100000 in
theorem x_U_copiesAcross {l : Launch} {D : va_G} {r0 : Nat} {x1 : Int32} {n : Nat} {h : XH} {rr : Int32}  (hE : X_U_copiesAcross r0 x1 h = some rr) : XMet l y_U_copiesAcross c_U_copiesAcross 7 (some .int) XTs XCL XNW XAL D ({ frames := 1, cells := 0, slots := 0, locals := 21 } : Room) 0 0 [.ref r0, .int x1] n h (some (.int rr)) n h := by
  refine XMet.mk (by decide) xNW_good xTs_good (Nat.le_of_ble_eq_true rfl) ?_
  intro p e s m args below meth c A ad0 hC hr hlk hnm
  refine xi_locs (lv' := [(0, .ref r0), (1, .int x1)]) [0, 1] rfl ?_
  exact s_U_copiesAcross_0 hC hr hlk hnm _ _ n h _ hE

set_option maxRecDepth 100000 in
set_option maxHeartbeats 4000000 in
theorem s_T_cross_0 {p : Program} {l : Launch} {e : Env} {s : State} {m : MethodId} {args : Array Value} {below : List Frame} {meth : Method} {c : Code} {D : va_G} {A : Nat → Prop} {ad0 : Nat → Nat} {n0 : Nat} (hC : XC p s m args c c_T_cross 2 y_T_cross.cls XTs XCL XNW XAL D A) (hr : meth.sig.returnType = some .int) (hlk : meth.locks = false) (hnm : meth.name = y_T_cross.name)   (r0 : Nat) (x1 : Int32) (n : Nat) (h : XH) (rr : Int32)  (hE : D_T_cross_0  r0 x1 h = some rr) : XW p l e ({ frames := 2, cells := 0, slots := 0, locals := 47 } : Room) s m args below meth c 2 XCL D A ad0 n0 0 0 (MQ below (xQc D XCL n0 ad0 A (some (.int rr)) n h) args s 0 0 A) n h 0 [(0, .ref r0), (1, .int x1)] [] := by
  unfold D_T_cross_0 at hE
  refine xi_iload_n hC d_T_cross_0 rfl 1 rfl ?_
  obtain ⟨v1, hE2, hE⟩ := xb1_inv hE
  refine xi_callS (as := [.int x1]) (st := []) hC (x_T_isDatum hE2) xt_101 xt_102 xt_47 xt_100 ⟨by decide, by decide, (by decide +kernel : (parseMethodDescriptor y_T_isDatum.desc).map (fun d => d.parameters.length) = some 1)⟩ rfl rfl ⟨by decide, by decide⟩ ⟨by decide, by decide⟩ (Nat.le_of_ble_eq_true rfl) rfl d_T_cross_1 ?_
  refine xi_stk (st' := [.int v1]) rfl ?_
  refine xi_if_ne (tgt := 10) hC d_T_cross_4 (by decide) (fun hz3 => ?_) (fun hz3 => ?_)
  · rw [if_neg hz3] at hE
    refine xi_aload_n hC d_T_cross_10 rfl 0 rfl ?_
    obtain ⟨o5, hE4, hE⟩ := xb1_inv hE
    refine xi_get (C := R_T) (T := T_T) (N := 6) (ci := 0) (k := 5) hC rfl iws_T (by decide) xt_53 (by decide) (xgQ_inv hE4) d_T_cross_11 ?_
    cases o5 with
    | none =>
      rw [xq_none] at hE
      refine xi_stk (st' := [.null]) rfl ?_
      refine xi_ifnonnullN hC d_T_cross_14 ?_
      refine xi_bipush (v := (-3 : Int32)) hC d_T_cross_17 (by decide) ?_
      cases hE
      exact xi_iret hC hr hlk d_T_cross_19
    | some q6 =>
      rw [xq_some] at hE
      refine xi_stk (st' := [.ref q6]) rfl ?_
      refine xi_ifnonnull (tgt := 20) hC d_T_cross_14 (by decide) ?_
      refine xi_aload_n hC d_T_cross_20 rfl 0 rfl ?_
      obtain ⟨q8, hE7, hE⟩ := xb1_inv hE
      refine xi_get (C := R_T) (T := T_T) (N := 6) (ci := 0) (k := 0) hC rfl iws_T (by decide) xt_27 (by decide) (xgR_inv hE7) d_T_cross_21 ?_
      refine xi_iload_n hC d_T_cross_24 rfl 1 rfl ?_
      obtain ⟨hI11, hE⟩ := xchk_inv hE
      obtain ⟨v9, hE10, hE⟩ := xb1_inv hE
      refine xi_callV (as := [.int x1]) (st := []) (C := R_U) (T := T_U) (N := 6) hC (x_U_copiesAcross hE10) rfl (by decide) hI11 xt_182 xt_183 xt_184 xt_23 xt_181 ⟨by decide, by decide, (by decide +kernel : (parseMethodDescriptor y_U_copiesAcross.desc).map (fun d => d.parameters.length) = some 1)⟩ rfl rfl ⟨by decide, by decide⟩ ⟨by decide, by decide⟩ (Nat.le_of_ble_eq_true rfl) rfl d_T_cross_25 ?_
      refine xi_stk (st' := [.int v9]) rfl ?_
      cases hE
      exact xi_iret hC hr hlk d_T_cross_28
  · rw [if_pos hz3] at hE
    refine xi_bipush (v := (-2 : Int32)) hC d_T_cross_7 (by decide) ?_
    cases hE
    exact xi_iret hC hr hlk d_T_cross_9
set_option maxRecDepth 100000 in
theorem x_T_cross {l : Launch} {D : va_G} {r0 : Nat} {x1 : Int32} {n : Nat} {h : XH} {rr : Int32}  (hE : X_T_cross r0 x1 h = some rr) : XMet l y_T_cross c_T_cross 2 (some .int) XTs XCL XNW XAL D ({ frames := 2, cells := 0, slots := 0, locals := 47 } : Room) 0 0 [.ref r0, .int x1] n h (some (.int rr)) n h := by
  refine XMet.mk (by decide) xNW_good xTs_good (Nat.le_of_ble_eq_true rfl) ?_
  intro p e s m args below meth c A ad0 hC hr hlk hnm
  refine xi_locs (lv' := [(0, .ref r0), (1, .int x1)]) [0, 1] rfl ?_
  exact s_T_cross_0 hC hr hlk hnm _ _ n h _ hE

set_option maxRecDepth 100000 in
set_option maxHeartbeats 4000000 in
theorem s_P_stepsOf_10 {p : Program} {l : Launch} {e : Env} {s : State} {m : MethodId} {args : Array Value} {below : List Frame} {meth : Method} {c : Code} {D : va_G} {A : Nat → Prop} {ad0 : Nat → Nat} {n0 : Nat} (hC : XC p s m args c c_P_stepsOf 5 y_P_stepsOf.cls XTs XCL XNW XAL D A) (hr : meth.sig.returnType = some .int) (hlk : meth.locks = false) (hnm : meth.name = y_P_stepsOf.name)   : ∀ (f : Nat) (r0 : Nat) (x1 : Int32) (r2 : Nat) (x3 : Int32) (x4 : Int32) (n : Nat) (h : XH) (rr : Int32) , D_P_stepsOf_10  f r0 x1 r2 x3 x4 h = some rr → XW p l e ({ frames := 0, cells := 0, slots := 0, locals := 0 } : Room) s m args below meth c 5 XCL D A ad0 n0 0 0 (MQ below (xQc D XCL n0 ad0 A (some (.int rr)) n h) args s 0 0 A) n h 10 [(0, .ref r0), (1, .int x1), (2, .ref r2), (3, .int x3), (4, .int x4)] [] := by
  intro f
  induction f with
  | zero =>
    intro r0 x1 r2 x3 x4 n h rr hE
    exact absurd hE (by simp [D_P_stepsOf_10])
  | succ fu ih =>
    intro r0 x1 r2 x3 x4 n h rr hE
    simp only [D_P_stepsOf_10] at hE
    refine xi_iload hC d_P_stepsOf_10 4 rfl ?_
    refine xi_aload_n hC d_P_stepsOf_12 rfl 0 rfl ?_
    obtain ⟨q2, hE1, hE⟩ := xb1_inv hE
    refine xi_get (C := R_P) (T := T_P) (N := 6) (ci := 3) (k := 5) hC rfl iws_P (by decide) xt_19 (by decide) (xgR_inv hE1) d_P_stepsOf_13 ?_
    refine xi_iload_n hC d_P_stepsOf_16 rfl 1 rfl ?_
    refine xi_iconst (v := (1 : Int32)) hC d_P_stepsOf_17 (by decide) ?_
    refine xi_iadd hC d_P_stepsOf_18 ?_
    obtain ⟨v3, hE4, hE⟩ := xb1_inv hE
    refine xi_iald hC hE4 d_P_stepsOf_19 ?_
    refine xi_icmp_ge (tgt := 44) hC d_P_stepsOf_20 (by decide) (fun hz5 => ?_) (fun hz5 => ?_)
    · rw [if_pos hz5] at hE
      refine xi_iload_n hC d_P_stepsOf_44 rfl 3 rfl ?_
      cases hE
      exact xi_iret hC hr hlk d_P_stepsOf_45
    · rw [if_neg hz5] at hE
      refine xi_iload_n hC d_P_stepsOf_23 rfl 3 rfl ?_
      refine xi_aload_n hC d_P_stepsOf_24 rfl 2 rfl ?_
      obtain ⟨q7, hE6, hE⟩ := xb1_inv hE
      refine xi_getN (C := R_U) (T := T_U) (N := 6) (ci := 1) (k := 3) hC rfl iws_U (by decide) xn_12 (by decide) (xgR_inv hE6) d_P_stepsOf_25 ?_
      refine xi_aload_n hC d_P_stepsOf_28 rfl 0 rfl ?_
      obtain ⟨q9, hE8, hE⟩ := xb1_inv hE
      refine xi_get (C := R_P) (T := T_P) (N := 6) (ci := 3) (k := 4) hC rfl iws_P (by decide) xt_18 (by decide) (xgR_inv hE8) d_P_stepsOf_29 ?_
      refine xi_iload hC d_P_stepsOf_32 4 rfl ?_
      obtain ⟨v10, hE11, hE⟩ := xb1_inv hE
      refine xi_iald hC hE11 d_P_stepsOf_34 ?_
      obtain ⟨v12, hE13, hE⟩ := xb1_inv hE
      refine xi_iald hC hE13 d_P_stepsOf_35 ?_
      refine xi_iadd hC d_P_stepsOf_36 ?_
      refine xi_istore_n (lv' := [(3, .int (x3 + v12)), (0, .ref r0), (1, .int x1), (2, .ref r2), (4, .int x4)]) hC d_P_stepsOf_37 rfl (by decide) rfl ?_
      refine xi_iinc (v := x4 + 1) (lv' := [(4, .int (x4 + 1)), (3, .int (x3 + v12)), (0, .ref r0), (1, .int x1), (2, .ref r2)]) hC d_P_stepsOf_38 4 rfl rfl (by decide) rfl ?_
      refine xi_goto (tgt := 10) hC d_P_stepsOf_41 (by decide) ?_
      refine xi_locs (lv' := [(0, .ref r0), (1, .int x1), (2, .ref r2), (3, .int (x3 + v12)), (4, .int (x4 + 1))]) [2, 3, 4, 1, 0] rfl ?_
      exact ih _ _ _ _ _ _ _ _ hE
set_option maxRecDepth 100000 in
set_option maxHeartbeats 4000000 in
theorem s_P_stepsOf_0 {p : Program} {l : Launch} {e : Env} {s : State} {m : MethodId} {args : Array Value} {below : List Frame} {meth : Method} {c : Code} {D : va_G} {A : Nat → Prop} {ad0 : Nat → Nat} {n0 : Nat} (hC : XC p s m args c c_P_stepsOf 5 y_P_stepsOf.cls XTs XCL XNW XAL D A) (hr : meth.sig.returnType = some .int) (hlk : meth.locks = false) (hnm : meth.name = y_P_stepsOf.name)   (r0 : Nat) (x1 : Int32) (r2 : Nat) (n : Nat) (h : XH) (rr : Int32)  (hE : D_P_stepsOf_0  r0 x1 r2 h = some rr) : XW p l e ({ frames := 0, cells := 0, slots := 0, locals := 0 } : Room) s m args below meth c 5 XCL D A ad0 n0 0 0 (MQ below (xQc D XCL n0 ad0 A (some (.int rr)) n h) args s 0 0 A) n h 0 [(0, .ref r0), (1, .int x1), (2, .ref r2)] [] := by
  unfold D_P_stepsOf_0 at hE
  refine xi_iconst (v := (0 : Int32)) hC d_P_stepsOf_0 (by decide) ?_
  refine xi_istore_n (lv' := [(3, .int (0 : Int32)), (0, .ref r0), (1, .int x1), (2, .ref r2)]) hC d_P_stepsOf_1 rfl (by decide) rfl ?_
  refine xi_aload_n hC d_P_stepsOf_2 rfl 1 rfl ?_
  obtain ⟨q2, hE1, hE⟩ := xb1_inv hE
  refine xi_get (C := R_P) (T := T_P) (N := 6) (ci := 3) (k := 5) hC rfl iws_P (by decide) xt_19 (by decide) (xgR_inv hE1) d_P_stepsOf_3 ?_
  refine xi_iload_n hC d_P_stepsOf_6 rfl 2 rfl ?_
  obtain ⟨v3, hE4, hE⟩ := xb1_inv hE
  refine xi_iald hC hE4 d_P_stepsOf_7 ?_
  refine xi_istore (lv' := [(4, .int v3), (3, .int (0 : Int32)), (0, .ref r0), (1, .int x1), (2, .ref r2)]) hC d_P_stepsOf_8 (by decide) rfl ?_
  refine xi_locs (lv' := [(0, .ref r0), (1, .int x1), (2, .ref r2), (3, .int (0 : Int32)), (4, .int v3)]) [2, 3, 4, 1, 0] rfl ?_
  exact s_P_stepsOf_10 hC hr hlk hnm 5000 _ _ _ _ _ _ _ _ hE
set_option maxRecDepth 100000 in
theorem x_P_stepsOf {l : Launch} {D : va_G} {r0 : Nat} {x1 : Int32} {r2 : Nat} {n : Nat} {h : XH} {rr : Int32}  (hE : X_P_stepsOf r0 x1 r2 h = some rr) : XMet l y_P_stepsOf c_P_stepsOf 5 (some .int) XTs XCL XNW XAL D ({ frames := 0, cells := 0, slots := 0, locals := 0 } : Room) 0 0 [.ref r0, .int x1, .ref r2] n h (some (.int rr)) n h := by
  refine XMet.mk (by decide) xNW_good xTs_good (Nat.le_of_ble_eq_true rfl) ?_
  intro p e s m args below meth c A ad0 hC hr hlk hnm
  refine xi_locs (lv' := [(0, .ref r0), (1, .int x1), (2, .ref r2)]) [0, 1, 2] rfl ?_
  exact s_P_stepsOf_0 hC hr hlk hnm _ _ _ n h _ hE

set_option maxRecDepth 100000 in
set_option maxHeartbeats 4000000 in
theorem s_T_budget_55 {p : Program} {l : Launch} {e : Env} {s : State} {m : MethodId} {args : Array Value} {below : List Frame} {meth : Method} {c : Code} {D : va_G} {A : Nat → Prop} {ad0 : Nat → Nat} {n0 : Nat} (hC : XC p s m args c c_T_budget 4 y_T_budget.cls XTs XCL XNW XAL D A) (hr : meth.sig.returnType = some .int) (hlk : meth.locks = false) (hnm : meth.name = y_T_budget.name)   (s0 : Int32) (n : Nat) (h : XH) (rr : Int32)  (hE : D_T_budget_55  s0 h = some rr) : XW p l e ({ frames := 2, cells := 0, slots := 0, locals := 43 } : Room) s m args below meth c 4 XCL D A ad0 n0 0 0 (MQ below (xQc D XCL n0 ad0 A (some (.int rr)) n h) args s 0 0 A) n h 55 [] [.int s0] := by
  unfold D_T_budget_55 at hE
  cases hE
  exact xi_iret hC hr hlk d_T_budget_55
set_option maxRecDepth 100000 in
set_option maxHeartbeats 4000000 in
theorem s_T_budget_0 {p : Program} {l : Launch} {e : Env} {s : State} {m : MethodId} {args : Array Value} {below : List Frame} {meth : Method} {c : Code} {D : va_G} {A : Nat → Prop} {ad0 : Nat → Nat} {n0 : Nat} (hC : XC p s m args c c_T_budget 4 y_T_budget.cls XTs XCL XNW XAL D A) (hr : meth.sig.returnType = some .int) (hlk : meth.locks = false) (hnm : meth.name = y_T_budget.name)   (r0 : Nat) (x1 : Int32) (x2 : Int64) (n : Nat) (h : XH) (rr : Int32)  (hE : D_T_budget_0  r0 x1 x2 h = some rr) : XW p l e ({ frames := 2, cells := 0, slots := 0, locals := 43 } : Room) s m args below meth c 4 XCL D A ad0 n0 0 0 (MQ below (xQc D XCL n0 ad0 A (some (.int rr)) n h) args s 0 0 A) n h 0 [(0, .ref r0), (1, .int x1), (2, .long x2)] [] := by
  unfold D_T_budget_0 at hE
  refine xi_aload_n hC d_T_budget_0 rfl 0 rfl ?_
  obtain ⟨o2, hE1, hE⟩ := xb1_inv hE
  refine xi_get (C := R_T) (T := T_T) (N := 6) (ci := 0) (k := 5) hC rfl iws_T (by decide) xt_53 (by decide) (xgQ_inv hE1) d_T_budget_1 ?_
  cases o2 with
  | none =>
    rw [xq_none] at hE
    refine xi_stk (st' := [.null]) rfl ?_
    refine xi_ifnonnullN hC d_T_budget_4 ?_
    refine xi_bipush (v := (-3 : Int32)) hC d_T_budget_7 (by decide) ?_
    cases hE
    exact xi_iret hC hr hlk d_T_budget_9
  | some q3 =>
    rw [xq_some] at hE
    refine xi_stk (st' := [.ref q3]) rfl ?_
    refine xi_ifnonnull (tgt := 10) hC d_T_budget_4 (by decide) ?_
    refine xi_aload_n hC d_T_budget_10 rfl 0 rfl ?_
    obtain ⟨o5, hE4, hE⟩ := xb1_inv hE
    refine xi_get (C := R_T) (T := T_T) (N := 6) (ci := 0) (k := 5) hC rfl iws_T (by decide) xt_53 (by decide) (xgQ_inv hE4) d_T_budget_11 ?_
    cases o5 with
    | none =>
      rw [xq_none] at hE
      refine xi_stk (st' := [.null]) rfl ?_
      refine xi_iload_n hC d_T_budget_14 rfl 1 rfl ?_
      cases hE
    | some q6 =>
      rw [xq_some] at hE
      refine xi_stk (st' := [.ref q6]) rfl ?_
      refine xi_iload_n hC d_T_budget_14 rfl 1 rfl ?_
      obtain ⟨hI9, hE⟩ := xchk_inv hE
      obtain ⟨v7, hE8, hE⟩ := xb1_inv hE
      refine xi_callV (as := [.int x1]) (st := []) (C := R_P) (T := T_P) (N := 6) hC (x_P_hasTask hE8) rfl (by decide) hI9 xt_158 xt_159 xt_160 xt_38 xt_157 ⟨by decide, by decide, (by decide +kernel : (parseMethodDescriptor y_P_hasTask.desc).map (fun d => d.parameters.length) = some 1)⟩ rfl rfl ⟨by decide, by decide⟩ ⟨by decide, by decide⟩ (Nat.le_of_ble_eq_true rfl) rfl d_T_budget_15 ?_
      refine xi_stk (st' := [.int v7]) rfl ?_
      refine xi_if_ne (tgt := 23) hC d_T_budget_18 (by decide) (fun hz10 => ?_) (fun hz10 => ?_)
      · rw [if_neg hz10] at hE
        refine xi_lload_n hC d_T_budget_23 rfl 2 rfl ?_
        refine xi_lconst (v := (0 : Int64)) hC d_T_budget_24 (by decide) ?_
        refine xi_lcmp hC d_T_budget_25 ?_
        refine xi_if_ge (tgt := 32) hC d_T_budget_26 (by decide) (fun hz11 => ?_) (fun hz11 => ?_)
        · rw [if_pos hz11] at hE
          refine xi_aload_n hC d_T_budget_32 rfl 0 rfl ?_
          obtain ⟨o13, hE12, hE⟩ := xb1_inv hE
          refine xi_get (C := R_T) (T := T_T) (N := 6) (ci := 0) (k := 5) hC rfl iws_T (by decide) xt_53 (by decide) (xgQ_inv hE12) d_T_budget_33 ?_
          cases o13 with
          | none =>
            rw [xq_none] at hE
            refine xi_stk (st' := [.null]) rfl ?_
            refine xi_iload_n hC d_T_budget_36 rfl 1 rfl ?_
            refine xi_aload_n hC d_T_budget_37 rfl 0 rfl ?_
            obtain ⟨q16, hE15, hE⟩ := xb1_inv hE
            refine xi_get (C := R_T) (T := T_T) (N := 6) (ci := 0) (k := 0) hC rfl iws_T (by decide) xt_27 (by decide) (xgR_inv hE15) d_T_budget_38 ?_
            cases hE
          | some q14 =>
            rw [xq_some] at hE
            refine xi_stk (st' := [.ref q14]) rfl ?_
            refine xi_iload_n hC d_T_budget_36 rfl 1 rfl ?_
            refine xi_aload_n hC d_T_budget_37 rfl 0 rfl ?_
            obtain ⟨q18, hE17, hE⟩ := xb1_inv hE
            refine xi_get (C := R_T) (T := T_T) (N := 6) (ci := 0) (k := 0) hC rfl iws_T (by decide) xt_27 (by decide) (xgR_inv hE17) d_T_budget_38 ?_
            obtain ⟨hI21, hE⟩ := xchk_inv hE
            obtain ⟨v19, hE20, hE⟩ := xb1_inv hE
            refine xi_callV (as := [.int x1, .ref q18]) (st := []) (C := R_P) (T := T_P) (N := 6) hC (x_P_stepsOf hE20) rfl (by decide) hI21 xt_186 xt_187 xt_188 xt_38 xt_185 ⟨by decide, by decide, (by decide +kernel : (parseMethodDescriptor y_P_stepsOf.desc).map (fun d => d.parameters.length) = some 2)⟩ rfl rfl ⟨by decide, by decide⟩ ⟨by decide, by decide⟩ (Nat.le_of_ble_eq_true rfl) rfl d_T_budget_41 ?_
            refine xi_stk (st' := [.int v19]) rfl ?_
            refine xi_i2l hC d_T_budget_44 ?_
            refine xi_lload_n hC d_T_budget_45 rfl 2 rfl ?_
            refine xi_lcmp hC d_T_budget_46 ?_
            refine xi_if_gt (tgt := 54) hC d_T_budget_47 (by decide) (fun hz22 => ?_) (fun hz22 => ?_)
            · rw [if_pos hz22] at hE
              refine xi_iconst (v := (0 : Int32)) hC d_T_budget_54 (by decide) ?_
              refine xi_locs (lv' := []) [] rfl ?_
              exact s_T_budget_55 hC hr hlk hnm _ _ _ _ hE
            · rw [if_neg hz22] at hE
              refine xi_iconst (v := (1 : Int32)) hC d_T_budget_50 (by decide) ?_
              refine xi_goto (tgt := 55) hC d_T_budget_51 (by decide) ?_
              refine xi_locs (lv' := []) [] rfl ?_
              exact s_T_budget_55 hC hr hlk hnm _ _ _ _ hE
        · rw [if_neg hz11] at hE
          refine xi_bipush (v := (-2 : Int32)) hC d_T_budget_29 (by decide) ?_
          cases hE
          exact xi_iret hC hr hlk d_T_budget_31
      · rw [if_pos hz10] at hE
        refine xi_iconst (v := (-1 : Int32)) hC d_T_budget_21 (by decide) ?_
        cases hE
        exact xi_iret hC hr hlk d_T_budget_22
set_option maxRecDepth 100000 in
theorem x_T_budget {l : Launch} {D : va_G} {r0 : Nat} {x1 : Int32} {x2 : Int64} {n : Nat} {h : XH} {rr : Int32}  (hE : X_T_budget r0 x1 x2 h = some rr) : XMet l y_T_budget c_T_budget 4 (some .int) XTs XCL XNW XAL D ({ frames := 2, cells := 0, slots := 0, locals := 43 } : Room) 0 0 [.ref r0, .int x1, .long x2] n h (some (.int rr)) n h := by
  refine XMet.mk (by decide) xNW_good xTs_good (Nat.le_of_ble_eq_true rfl) ?_
  intro p e s m args below meth c A ad0 hC hr hlk hnm
  refine xi_locs (lv' := [(0, .ref r0), (1, .int x1), (2, .long x2)]) [0, 1, 2] rfl ?_
  exact s_T_budget_0 hC hr hlk hnm _ _ _ n h _ hE

set_option maxRecDepth 100000 in
set_option maxHeartbeats 4000000 in
theorem s_P_standsIn_38 {p : Program} {l : Launch} {e : Env} {s : State} {m : MethodId} {args : Array Value} {below : List Frame} {meth : Method} {c : Code} {D : va_G} {A : Nat → Prop} {ad0 : Nat → Nat} {n0 : Nat} (hC : XC p s m args c c_P_standsIn 5 y_P_standsIn.cls XTs XCL XNW XAL D A) (hr : meth.sig.returnType = some .boolean) (hlk : meth.locks = false) (hnm : meth.name = y_P_standsIn.name)   : ∀ (f : Nat) (r0 : Nat) (r1 : Nat) (x2 : Int32) (x3 : Int32) (x4 : Int32) (n : Nat) (h : XH) (rr : Int32) , D_P_standsIn_38  f r0 r1 x2 x3 x4 h = some rr → XW p l e ({ frames := 2, cells := 0, slots := 0, locals := 43 } : Room) s m args below meth c 5 XCL D A ad0 n0 0 0 (MQ below (xQc D XCL n0 ad0 A (some (.int rr)) n h) args s 0 0 A) n h 38 [(0, .ref r0), (1, .ref r1), (2, .int x2), (3, .int x3), (4, .int x4)] [] := by
  intro f
  induction f with
  | zero =>
    intro r0 r1 x2 x3 x4 n h rr hE
    exact absurd hE (by simp [D_P_standsIn_38])
  | succ fu ih =>
    intro r0 r1 x2 x3 x4 n h rr hE
    simp only [D_P_standsIn_38] at hE
    refine xi_iload hC d_P_standsIn_38 4 rfl ?_
    refine xi_aload_n hC d_P_standsIn_40 rfl 0 rfl ?_
    refine xi_iload_n hC d_P_standsIn_41 rfl 2 rfl ?_
    obtain ⟨hI3, hE⟩ := xchk_inv hE
    obtain ⟨v1, hE2, hE⟩ := xb1_inv hE
    refine xi_callV (as := [.int x2]) (st := [.int x4]) (C := R_P) (T := T_P) (N := 6) hC (x_P_sizeOf hE2) rfl (by decide) hI3 xt_154 xt_155 xt_156 xt_38 xt_153 ⟨by decide, by decide, (by decide +kernel : (parseMethodDescriptor y_P_sizeOf.desc).map (fun d => d.parameters.length) = some 1)⟩ rfl rfl ⟨by decide, by decide⟩ ⟨by decide, by decide⟩ (Nat.le_of_ble_eq_true rfl) rfl d_P_standsIn_42 ?_
    refine xi_stk (st' := [.int v1, .int x4]) rfl ?_
    refine xi_icmp_ge (tgt := 73) hC d_P_standsIn_45 (by decide) (fun hz4 => ?_) (fun hz4 => ?_)
    · rw [if_pos hz4] at hE
      refine xi_iconst (v := (1 : Int32)) hC d_P_standsIn_73 (by decide) ?_
      cases hE
      exact xi_zret hC hr (by decide) hlk d_P_standsIn_74
    · rw [if_neg hz4] at hE
      refine xi_aload_n hC d_P_standsIn_48 rfl 1 rfl ?_
      refine xi_iload_n hC d_P_standsIn_49 rfl 3 rfl ?_
      refine xi_iload hC d_P_standsIn_50 4 rfl ?_
      obtain ⟨hI7, hE⟩ := xchk_inv hE
      obtain ⟨v5, hE6, hE⟩ := xb1_inv hE
      refine xi_callV (as := [.int x3, .int x4]) (st := []) (C := R_P) (T := T_P) (N := 6) hC (x_P_runnableAt hE6) rfl (by decide) hI7 xt_189 xt_163 xt_164 xt_38 xt_161 ⟨by decide, by decide, (by decide +kernel : (parseMethodDescriptor y_P_runnableAt.desc).map (fun d => d.parameters.length) = some 2)⟩ rfl rfl ⟨by decide, by decide⟩ ⟨by decide, by decide⟩ (Nat.le_of_ble_eq_true rfl) rfl d_P_standsIn_52 ?_
      refine xi_stk (st' := [.int v5]) rfl ?_
      refine xi_aload_n hC d_P_standsIn_55 rfl 0 rfl ?_
      refine xi_iload_n hC d_P_standsIn_56 rfl 2 rfl ?_
      refine xi_iload hC d_P_standsIn_57 4 rfl ?_
      obtain ⟨hI10, hE⟩ := xchk_inv hE
      obtain ⟨v8, hE9, hE⟩ := xb1_inv hE
      refine xi_callV (as := [.int x2, .int x4]) (st := [.int v5]) (C := R_P) (T := T_P) (N := 6) hC (x_P_runnableAt hE9) rfl (by decide) hI10 xt_189 xt_163 xt_164 xt_38 xt_161 ⟨by decide, by decide, (by decide +kernel : (parseMethodDescriptor y_P_runnableAt.desc).map (fun d => d.parameters.length) = some 2)⟩ rfl rfl ⟨by decide, by decide⟩ ⟨by decide, by decide⟩ (Nat.le_of_ble_eq_true rfl) rfl d_P_standsIn_59 ?_
      refine xi_stk (st' := [.int v8, .int v5]) rfl ?_
      refine xi_icmp_eq (tgt := 67) hC d_P_standsIn_62 (by decide) (fun hz11 => ?_) (fun hz11 => ?_)
      · rw [if_pos hz11] at hE
        refine xi_iinc (v := x4 + 1) (lv' := [(4, .int (x4 + 1)), (0, .ref r0), (1, .ref r1), (2, .int x2), (3, .int x3)]) hC d_P_standsIn_67 4 rfl rfl (by decide) rfl ?_
        refine xi_goto (tgt := 38) hC d_P_standsIn_70 (by decide) ?_
        refine xi_locs (lv' := [(0, .ref r0), (1, .ref r1), (2, .int x2), (3, .int x3), (4, .int (x4 + 1))]) [1, 2, 3, 4, 0] rfl ?_
        exact ih _ _ _ _ _ _ _ _ hE
      · rw [if_neg hz11] at hE
        refine xi_iconst (v := (0 : Int32)) hC d_P_standsIn_65 (by decide) ?_
        cases hE
        exact xi_zret hC hr (by decide) hlk d_P_standsIn_66
set_option maxRecDepth 100000 in
set_option maxHeartbeats 4000000 in
theorem s_P_standsIn_33 {p : Program} {l : Launch} {e : Env} {s : State} {m : MethodId} {args : Array Value} {below : List Frame} {meth : Method} {c : Code} {D : va_G} {A : Nat → Prop} {ad0 : Nat → Nat} {n0 : Nat} (hC : XC p s m args c c_P_standsIn 5 y_P_standsIn.cls XTs XCL XNW XAL D A) (hr : meth.sig.returnType = some .boolean) (hlk : meth.locks = false) (hnm : meth.name = y_P_standsIn.name)    (n : Nat) (h : XH) (rr : Int32)  (hE : D_P_standsIn_33   h = some rr) : XW p l e ({ frames := 2, cells := 0, slots := 0, locals := 43 } : Room) s m args below meth c 5 XCL D A ad0 n0 0 0 (MQ below (xQc D XCL n0 ad0 A (some (.int rr)) n h) args s 0 0 A) n h 33 [] [] := by
  unfold D_P_standsIn_33 at hE
  refine xi_iconst (v := (0 : Int32)) hC d_P_standsIn_33 (by decide) ?_
  cases hE
  exact xi_zret hC hr (by decide) hlk d_P_standsIn_34
set_option maxRecDepth 100000 in
set_option maxHeartbeats 4000000 in
theorem s_P_standsIn_0 {p : Program} {l : Launch} {e : Env} {s : State} {m : MethodId} {args : Array Value} {below : List Frame} {meth : Method} {c : Code} {D : va_G} {A : Nat → Prop} {ad0 : Nat → Nat} {n0 : Nat} (hC : XC p s m args c c_P_standsIn 5 y_P_standsIn.cls XTs XCL XNW XAL D A) (hr : meth.sig.returnType = some .boolean) (hlk : meth.locks = false) (hnm : meth.name = y_P_standsIn.name)   (r0 : Nat) (r1 : Nat) (x2 : Int32) (n : Nat) (h : XH) (rr : Int32)  (hE : D_P_standsIn_0  r0 r1 x2 h = some rr) : XW p l e ({ frames := 2, cells := 0, slots := 0, locals := 43 } : Room) s m args below meth c 5 XCL D A ad0 n0 0 0 (MQ below (xQc D XCL n0 ad0 A (some (.int rr)) n h) args s 0 0 A) n h 0 [(0, .ref r0), (1, .ref r1), (2, .int x2)] [] := by
  unfold D_P_standsIn_0 at hE
  refine xi_aload_n hC d_P_standsIn_0 rfl 1 rfl ?_
  obtain ⟨q2, hE1, hE⟩ := xb1_inv hE
  refine xi_get (C := R_P) (T := T_P) (N := 6) (ci := 3) (k := 1) hC rfl iws_P (by decide) xt_15 (by decide) (xgR_inv hE1) d_P_standsIn_1 ?_
  refine xi_aload_n hC d_P_standsIn_4 rfl 0 rfl ?_
  refine xi_iload_n hC d_P_standsIn_5 rfl 2 rfl ?_
  refine xi_iconst (v := (0 : Int32)) hC d_P_standsIn_6 (by decide) ?_
  obtain ⟨hI5, hE⟩ := xchk_inv hE
  obtain ⟨v3, hE4, hE⟩ := xb1_inv hE
  refine xi_callV (as := [.int x2, .int (0 : Int32)]) (st := [.ref q2]) (C := R_P) (T := T_P) (N := 6) hC (x_P_runnableAt hE4) rfl (by decide) hI5 xt_189 xt_163 xt_164 xt_38 xt_161 ⟨by decide, by decide, (by decide +kernel : (parseMethodDescriptor y_P_runnableAt.desc).map (fun d => d.parameters.length) = some 2)⟩ rfl rfl ⟨by decide, by decide⟩ ⟨by decide, by decide⟩ (Nat.le_of_ble_eq_true rfl) rfl d_P_standsIn_7 ?_
  refine xi_stk (st' := [.int v3, .ref q2]) rfl ?_
  obtain ⟨v6, hE7, hE⟩ := xb1_inv hE
  refine xi_iald hC hE7 d_P_standsIn_10 ?_
  refine xi_istore_n (lv' := [(3, .int v6), (0, .ref r0), (1, .ref r1), (2, .int x2)]) hC d_P_standsIn_11 rfl (by decide) rfl ?_
  refine xi_aload_n hC d_P_standsIn_12 rfl 2 rfl ?_
  refine xi_iload_n hC d_P_standsIn_13 rfl 0 rfl ?_
  obtain ⟨hI10, hE⟩ := xchk_inv hE
  obtain ⟨v8, hE9, hE⟩ := xb1_inv hE
  refine xi_callV (as := [.int v6]) (st := []) (C := R_P) (T := T_P) (N := 6) hC (x_P_hasTask hE9) rfl (by decide) hI10 xt_190 xt_159 xt_160 xt_38 xt_157 ⟨by decide, by decide, (by decide +kernel : (parseMethodDescriptor y_P_hasTask.desc).map (fun d => d.parameters.length) = some 1)⟩ rfl rfl ⟨by decide, by decide⟩ ⟨by decide, by decide⟩ (Nat.le_of_ble_eq_true rfl) rfl d_P_standsIn_14 ?_
  refine xi_stk (st' := [.int v8]) rfl ?_
  refine xi_if_eq (tgt := 33) hC d_P_standsIn_17 (by decide) (fun hz11 => ?_) (fun hz11 => ?_)
  · rw [if_pos hz11] at hE
    refine xi_locs (lv' := []) [] rfl ?_
    exact s_P_standsIn_33 hC hr hlk hnm _ _ _ hE
  · rw [if_neg hz11] at hE
    refine xi_aload_n hC d_P_standsIn_20 rfl 2 rfl ?_
    refine xi_iload_n hC d_P_standsIn_21 rfl 0 rfl ?_
    obtain ⟨hI14, hE⟩ := xchk_inv hE
    obtain ⟨v12, hE13, hE⟩ := xb1_inv hE
    refine xi_callV (as := [.int v6]) (st := []) (C := R_P) (T := T_P) (N := 6) hC (x_P_sizeOf hE13) rfl (by decide) hI14 xt_154 xt_155 xt_156 xt_38 xt_153 ⟨by decide, by decide, (by decide +kernel : (parseMethodDescriptor y_P_sizeOf.desc).map (fun d => d.parameters.length) = some 1)⟩ rfl rfl ⟨by decide, by decide⟩ ⟨by decide, by decide⟩ (Nat.le_of_ble_eq_true rfl) rfl d_P_standsIn_22 ?_
    refine xi_stk (st' := [.int v12]) rfl ?_
    refine xi_aload_n hC d_P_standsIn_25 rfl 1 rfl ?_
    refine xi_iload_n hC d_P_standsIn_26 rfl 3 rfl ?_
    obtain ⟨hI17, hE⟩ := xchk_inv hE
    obtain ⟨v15, hE16, hE⟩ := xb1_inv hE
    refine xi_callV (as := [.int x2]) (st := [.int v12]) (C := R_P) (T := T_P) (N := 6) hC (x_P_sizeOf hE16) rfl (by decide) hI17 xt_154 xt_155 xt_156 xt_38 xt_153 ⟨by decide, by decide, (by decide +kernel : (parseMethodDescriptor y_P_sizeOf.desc).map (fun d => d.parameters.length) = some 1)⟩ rfl rfl ⟨by decide, by decide⟩ ⟨by decide, by decide⟩ (Nat.le_of_ble_eq_true rfl) rfl d_P_standsIn_27 ?_
    refine xi_stk (st' := [.int v15, .int v12]) rfl ?_
    refine xi_icmp_eq (tgt := 35) hC d_P_standsIn_30 (by decide) (fun hz18 => ?_) (fun hz18 => ?_)
    · rw [if_pos hz18] at hE
      refine xi_iconst (v := (0 : Int32)) hC d_P_standsIn_35 (by decide) ?_
      refine xi_istore (lv' := [(4, .int (0 : Int32)), (3, .int v6), (0, .ref r0), (1, .ref r1), (2, .int x2)]) hC d_P_standsIn_36 (by decide) rfl ?_
      refine xi_locs (lv' := [(0, .ref r0), (1, .ref r1), (2, .int x2), (3, .int v6), (4, .int (0 : Int32))]) [2, 3, 4, 1, 0] rfl ?_
      exact s_P_standsIn_38 hC hr hlk hnm 5000 _ _ _ _ _ _ _ _ hE
    · rw [if_neg hz18] at hE
      refine xi_locs (lv' := []) [] rfl ?_
      exact s_P_standsIn_33 hC hr hlk hnm _ _ _ hE
set_option maxRecDepth 100000 in
theorem x_P_standsIn {l : Launch} {D : va_G} {r0 : Nat} {r1 : Nat} {x2 : Int32} {n : Nat} {h : XH} {rr : Int32}  (hE : X_P_standsIn r0 r1 x2 h = some rr) : XMet l y_P_standsIn c_P_standsIn 5 (some .boolean) XTs XCL XNW XAL D ({ frames := 2, cells := 0, slots := 0, locals := 43 } : Room) 0 0 [.ref r0, .ref r1, .int x2] n h (some (.int rr)) n h := by
  refine XMet.mk (by decide) xNW_good xTs_good (Nat.le_of_ble_eq_true rfl) ?_
  intro p e s m args below meth c A ad0 hC hr hlk hnm
  refine xi_locs (lv' := [(0, .ref r0), (1, .ref r1), (2, .int x2)]) [0, 1, 2] rfl ?_
  exact s_P_standsIn_0 hC hr hlk hnm _ _ _ n h _ hE

set_option maxRecDepth 100000 in
set_option maxHeartbeats 4000000 in
theorem s_P_tasksNotIn_24 {p : Program} {l : Launch} {e : Env} {s : State} {m : MethodId} {args : Array Value} {below : List Frame} {meth : Method} {c : Code} {D : va_G} {A : Nat → Prop} {ad0 : Nat → Nat} {n0 : Nat} (hC : XC p s m args c c_P_tasksNotIn 4 y_P_tasksNotIn.cls XTs XCL XNW XAL D A) (hr : meth.sig.returnType = some .int) (hlk : meth.locks = false) (hnm : meth.name = y_P_tasksNotIn.name) {k4 : Nat → Nat → Int32 → Int32 → XH → Option (Int32)} (n : Nat) (h : XH) (rr : Int32)  (hk4 : ∀ (r0 : Nat) (r1 : Nat) (x2 : Int32) (x3 : Int32), k4 r0 r1 x2 x3 h = some rr → XW p l e ({ frames := 3, cells := 0, slots := 0, locals := 67 } : Room) s m args below meth c 4 XCL D A ad0 n0 0 0 (MQ below (xQc D XCL n0 ad0 A (some (.int rr)) n h) args s 0 0 A) n h 4 [(0, .ref r0), (1, .ref r1), (2, .int x2), (3, .int x3)] []) (r0 : Nat) (r1 : Nat) (x2 : Int32) (x3 : Int32)  (hE : D_P_tasksNotIn_24 k4 r0 r1 x2 x3 h = some rr) : XW p l e ({ frames := 3, cells := 0, slots := 0, locals := 67 } : Room) s m args below meth c 4 XCL D A ad0 n0 0 0 (MQ below (xQc D XCL n0 ad0 A (some (.int rr)) n h) args s 0 0 A) n h 24 [(0, .ref r0), (1, .ref r1), (2, .int x2), (3, .int x3)] [] := by
  unfold D_P_tasksNotIn_24 at hE
  refine xi_iinc (v := x3 + 1) (lv' := [(3, .int (x3 + 1)), (0, .ref r0), (1, .ref r1), (2, .int x2)]) hC d_P_tasksNotIn_24 3 rfl rfl (by decide) rfl ?_
  refine xi_goto (tgt := 4) hC d_P_tasksNotIn_27 (by decide) ?_
  refine xi_locs (lv' := [(0, .ref r0), (1, .ref r1), (2, .int x2), (3, .int (x3 + 1))]) [1, 2, 3, 0] rfl ?_
  exact hk4 _ _ _ _ hE
set_option maxRecDepth 100000 in
set_option maxHeartbeats 4000000 in
theorem s_P_tasksNotIn_4 {p : Program} {l : Launch} {e : Env} {s : State} {m : MethodId} {args : Array Value} {below : List Frame} {meth : Method} {c : Code} {D : va_G} {A : Nat → Prop} {ad0 : Nat → Nat} {n0 : Nat} (hC : XC p s m args c c_P_tasksNotIn 4 y_P_tasksNotIn.cls XTs XCL XNW XAL D A) (hr : meth.sig.returnType = some .int) (hlk : meth.locks = false) (hnm : meth.name = y_P_tasksNotIn.name)   : ∀ (f : Nat) (r0 : Nat) (r1 : Nat) (x2 : Int32) (x3 : Int32) (n : Nat) (h : XH) (rr : Int32) , D_P_tasksNotIn_4  f r0 r1 x2 x3 h = some rr → XW p l e ({ frames := 3, cells := 0, slots := 0, locals := 67 } : Room) s m args below meth c 4 XCL D A ad0 n0 0 0 (MQ below (xQc D XCL n0 ad0 A (some (.int rr)) n h) args s 0 0 A) n h 4 [(0, .ref r0), (1, .ref r1), (2, .int x2), (3, .int x3)] [] := by
  intro f
  induction f with
  | zero =>
    intro r0 r1 x2 x3 n h rr hE
    exact absurd hE (by simp [D_P_tasksNotIn_4])
  | succ fu ih =>
    intro r0 r1 x2 x3 n h rr hE
    simp only [D_P_tasksNotIn_4] at hE
    refine xi_iload_n hC d_P_tasksNotIn_4 rfl 3 rfl ?_
    refine xi_aload_n hC d_P_tasksNotIn_5 rfl 0 rfl ?_
    obtain ⟨v2, hE1, hE⟩ := xb1_inv hE
    refine xi_get (C := R_P) (T := T_P) (N := 6) (ci := 3) (k := 0) hC rfl iws_P (by decide) xt_116 (by decide) (xgI_inv hE1) d_P_tasksNotIn_6 ?_
    refine xi_icmp_gt (tgt := 30) hC d_P_tasksNotIn_9 (by decide) (fun hz3 => ?_) (fun hz3 => ?_)
    · rw [if_pos hz3] at hE
      refine xi_iload_n hC d_P_tasksNotIn_30 rfl 2 rfl ?_
      cases hE
      exact xi_iret hC hr hlk d_P_tasksNotIn_31
    · rw [if_neg hz3] at hE
      refine xi_aload_n hC d_P_tasksNotIn_12 rfl 0 rfl ?_
      refine xi_aload_n hC d_P_tasksNotIn_13 rfl 1 rfl ?_
      refine xi_iload_n hC d_P_tasksNotIn_14 rfl 3 rfl ?_
      obtain ⟨hI6, hE⟩ := xchk_inv hE
      obtain ⟨v4, hE5, hE⟩ := xb1_inv hE
      refine xi_callV (as := [.ref r1, .int x3]) (st := []) (C := R_P) (T := T_P) (N := 6) hC (x_P_standsIn hE5) rfl (by decide) hI6 xt_192 xt_193 xt_194 xt_38 xt_191 ⟨by decide, by decide, (by decide +kernel : (parseMethodDescriptor y_P_standsIn.desc).map (fun d => d.parameters.length) = some 2)⟩ rfl rfl ⟨by decide, by decide⟩ ⟨by decide, by decide⟩ (Nat.le_of_ble_eq_true rfl) rfl d_P_tasksNotIn_15 ?_
      refine xi_stk (st' := [.int v4]) rfl ?_
      refine xi_if_ne (tgt := 24) hC d_P_tasksNotIn_18 (by decide) (fun hz7 => ?_) (fun hz7 => ?_)
      · rw [if_neg hz7] at hE
        refine xi_locs (lv' := [(0, .ref r0), (1, .ref r1), (2, .int x2), (3, .int x3)]) [0, 1, 2, 3] rfl ?_
        exact s_P_tasksNotIn_24 hC hr hlk hnm _ _ _ (fun y0 y1 y2 y3 z => ih y0 y1 y2 y3 _ _ _ z) _ _ _ _ hE
      · rw [if_pos hz7] at hE
        refine xi_iinc (v := x2 + 1) (lv' := [(2, .int (x2 + 1)), (0, .ref r0), (1, .ref r1), (3, .int x3)]) hC d_P_tasksNotIn_21 2 rfl rfl (by decide) rfl ?_
        refine xi_locs (lv' := [(0, .ref r0), (1, .ref r1), (2, .int (x2 + 1)), (3, .int x3)]) [1, 2, 0, 3] rfl ?_
        exact s_P_tasksNotIn_24 hC hr hlk hnm _ _ _ (fun y0 y1 y2 y3 z => ih y0 y1 y2 y3 _ _ _ z) _ _ _ _ hE
set_option maxRecDepth 100000 in
set_option maxHeartbeats 4000000 in
theorem s_P_tasksNotIn_0 {p : Program} {l : Launch} {e : Env} {s : State} {m : MethodId} {args : Array Value} {below : List Frame} {meth : Method} {c : Code} {D : va_G} {A : Nat → Prop} {ad0 : Nat → Nat} {n0 : Nat} (hC : XC p s m args c c_P_tasksNotIn 4 y_P_tasksNotIn.cls XTs XCL XNW XAL D A) (hr : meth.sig.returnType = some .int) (hlk : meth.locks = false) (hnm : meth.name = y_P_tasksNotIn.name)   (r0 : Nat) (r1 : Nat) (n : Nat) (h : XH) (rr : Int32)  (hE : D_P_tasksNotIn_0  r0 r1 h = some rr) : XW p l e ({ frames := 3, cells := 0, slots := 0, locals := 67 } : Room) s m args below meth c 4 XCL D A ad0 n0 0 0 (MQ below (xQc D XCL n0 ad0 A (some (.int rr)) n h) args s 0 0 A) n h 0 [(0, .ref r0), (1, .ref r1)] [] := by
  unfold D_P_tasksNotIn_0 at hE
  refine xi_iconst (v := (0 : Int32)) hC d_P_tasksNotIn_0 (by decide) ?_
  refine xi_istore_n (lv' := [(2, .int (0 : Int32)), (0, .ref r0), (1, .ref r1)]) hC d_P_tasksNotIn_1 rfl (by decide) rfl ?_
  refine xi_iconst (v := (1 : Int32)) hC d_P_tasksNotIn_2 (by decide) ?_
  refine xi_istore_n (lv' := [(3, .int (1 : Int32)), (2, .int (0 : Int32)), (0, .ref r0), (1, .ref r1)]) hC d_P_tasksNotIn_3 rfl (by decide) rfl ?_
  refine xi_locs (lv' := [(0, .ref r0), (1, .ref r1), (2, .int (0 : Int32)), (3, .int (1 : Int32))]) [2, 3, 1, 0] rfl ?_
  exact s_P_tasksNotIn_4 hC hr hlk hnm 5000 _ _ _ _ _ _ _ hE
set_option maxRecDepth 100000 in
theorem x_P_tasksNotIn {l : Launch} {D : va_G} {r0 : Nat} {r1 : Nat} {n : Nat} {h : XH} {rr : Int32}  (hE : X_P_tasksNotIn r0 r1 h = some rr) : XMet l y_P_tasksNotIn c_P_tasksNotIn 4 (some .int) XTs XCL XNW XAL D ({ frames := 3, cells := 0, slots := 0, locals := 67 } : Room) 0 0 [.ref r0, .ref r1] n h (some (.int rr)) n h := by
  refine XMet.mk (by decide) xNW_good xTs_good (Nat.le_of_ble_eq_true rfl) ?_
  intro p e s m args below meth c A ad0 hC hr hlk hnm
  refine xi_locs (lv' := [(0, .ref r0), (1, .ref r1)]) [0, 1] rfl ?_
  exact s_P_tasksNotIn_0 hC hr hlk hnm _ _ n h _ hE

set_option maxRecDepth 100000 in
set_option maxHeartbeats 4000000 in
theorem s_T_differ_0 {p : Program} {l : Launch} {e : Env} {s : State} {m : MethodId} {args : Array Value} {below : List Frame} {meth : Method} {c : Code} {D : va_G} {A : Nat → Prop} {ad0 : Nat → Nat} {n0 : Nat} (hC : XC p s m args c c_T_differ 3 y_T_differ.cls XTs XCL XNW XAL D A) (hr : meth.sig.returnType = some .int) (hlk : meth.locks = false) (hnm : meth.name = y_T_differ.name)   (r0 : Nat) (x1 : Int32) (n : Nat) (h : XH) (rr : Int32)  (hE : D_T_differ_0  r0 x1 h = some rr) : XW p l e ({ frames := 4, cells := 0, slots := 0, locals := 90 } : Room) s m args below meth c 3 XCL D A ad0 n0 0 0 (MQ below (xQc D XCL n0 ad0 A (some (.int rr)) n h) args s 0 0 A) n h 0 [(0, .ref r0), (1, .int x1)] [] := by
  unfold D_T_differ_0 at hE
  refine xi_aload_n hC d_T_differ_0 rfl 0 rfl ?_
  obtain ⟨o2, hE1, hE⟩ := xb1_inv hE
  refine xi_get (C := R_T) (T := T_T) (N := 6) (ci := 0) (k := 5) hC rfl iws_T (by decide) xt_53 (by decide) (xgQ_inv hE1) d_T_differ_1 ?_
  cases o2 with
  | none =>
    rw [xq_none] at hE
    refine xi_stk (st' := [.null]) rfl ?_
    refine xi_ifnonnullN hC d_T_differ_4 ?_
    refine xi_bipush (v := (-3 : Int32)) hC d_T_differ_7 (by decide) ?_
    cases hE
    exact xi_iret hC hr hlk d_T_differ_9
  | some q3 =>
    rw [xq_some] at hE
    refine xi_stk (st' := [.ref q3]) rfl ?_
    refine xi_ifnonnull (tgt := 10) hC d_T_differ_4 (by decide) ?_
    refine xi_iload_n hC d_T_differ_10 rfl 1 rfl ?_
    refine xi_iconst (v := (1 : Int32)) hC d_T_differ_11 (by decide) ?_
    refine xi_aload_n hC d_T_differ_12 rfl 0 rfl ?_
    obtain ⟨v5, hE4, hE⟩ := xb1_inv hE
    refine xi_get (C := R_T) (T := T_T) (N := 6) (ci := 0) (k := 3) hC rfl iws_T (by decide) xt_115 (by decide) (xgI_inv hE4) d_T_differ_13 ?_
    obtain ⟨v6, hE7, hE⟩ := xb1_inv hE
    refine xi_callS (as := [.int x1, .int (1 : Int32), .int v5]) (st := []) hC (x_T_isWithin hE7) xt_45 xt_46 xt_47 xt_44 ⟨by decide, by decide, (by decide +kernel : (parseMethodDescriptor y_T_isWithin.desc).map (fun d => d.parameters.length) = some 3)⟩ rfl rfl ⟨by decide, by decide⟩ ⟨by decide, by decide⟩ (Nat.le_of_ble_eq_true rfl) rfl d_T_differ_16 ?_
    refine xi_stk (st' := [.int v6]) rfl ?_
    refine xi_if_ne (tgt := 24) hC d_T_differ_19 (by decide) (fun hz8 => ?_) (fun hz8 => ?_)
    · rw [if_neg hz8] at hE
      refine xi_aload_n hC d_T_differ_24 rfl 0 rfl ?_
      obtain ⟨q10, hE9, hE⟩ := xb1_inv hE
      refine xi_get (C := R_T) (T := T_T) (N := 6) (ci := 0) (k := 2) hC rfl iws_T (by decide) xt_36 (by decide) (xgR_inv hE9) d_T_differ_25 ?_
      refine xi_iload_n hC d_T_differ_28 rfl 1 rfl ?_
      refine xi_iconst (v := (1 : Int32)) hC d_T_differ_29 (by decide) ?_
      refine xi_isub hC d_T_differ_30 ?_
      obtain ⟨o11, hE12, hE⟩ := xb1_inv hE
      refine xi_aald hC hE12 d_T_differ_31 ?_
      cases o11 with
      | none =>
        rw [xq_none] at hE
        refine xi_stk (st' := [.null]) rfl ?_
        refine xi_astore_nN (lv' := [(2, .null), (0, .ref r0), (1, .int x1)]) hC d_T_differ_32 rfl (by decide) rfl ?_
        refine xi_aload_nN hC d_T_differ_33 rfl 0 rfl ?_
        refine xi_ifnonnullN hC d_T_differ_34 ?_
        refine xi_iconst (v := (-1 : Int32)) hC d_T_differ_37 (by decide) ?_
        cases hE
        exact xi_iret hC hr hlk d_T_differ_38
      | some q13 =>
        rw [xq_some] at hE
        refine xi_stk (st' := [.ref q13]) rfl ?_
        refine xi_astore_n (lv' := [(2, .ref q13), (0, .ref r0), (1, .int x1)]) hC d_T_differ_32 rfl (by decide) rfl ?_
        refine xi_aload_n hC d_T_differ_33 rfl 0 rfl ?_
        refine xi_ifnonnull (tgt := 39) hC d_T_differ_34 (by decide) ?_
        refine xi_aload_n hC d_T_differ_39 rfl 1 rfl ?_
        obtain ⟨o15, hE14, hE⟩ := xb1_inv hE
        refine xi_get (C := R_T) (T := T_T) (N := 6) (ci := 0) (k := 5) hC rfl iws_T (by decide) xt_53 (by decide) (xgQ_inv hE14) d_T_differ_40 ?_
        cases o15 with
        | none =>
          rw [xq_none] at hE
          refine xi_stk (st' := [.null]) rfl ?_
          refine xi_aload_n hC d_T_differ_43 rfl 0 rfl ?_
          cases hE
        | some q16 =>
          rw [xq_some] at hE
          refine xi_stk (st' := [.ref q16]) rfl ?_
          refine xi_aload_n hC d_T_differ_43 rfl 0 rfl ?_
          obtain ⟨hI19, hE⟩ := xchk_inv hE
          obtain ⟨v17, hE18, hE⟩ := xb1_inv hE
          refine xi_callV (as := [.ref q13]) (st := []) (C := R_P) (T := T_P) (N := 6) hC (x_P_tasksNotIn hE18) rfl (by decide) hI19 xt_196 xt_197 xt_198 xt_38 xt_195 ⟨by decide, by decide, (by decide +kernel : (parseMethodDescriptor y_P_tasksNotIn.desc).map (fun d => d.parameters.length) = some 1)⟩ rfl rfl ⟨by decide, by decide⟩ ⟨by decide, by decide⟩ (Nat.le_of_ble_eq_true rfl) rfl d_T_differ_44 ?_
          refine xi_stk (st' := [.int v17]) rfl ?_
          cases hE
          exact xi_iret hC hr hlk d_T_differ_47
    · rw [if_pos hz8] at hE
      refine xi_iconst (v := (-1 : Int32)) hC d_T_differ_22 (by decide) ?_
      cases hE
      exact xi_iret hC hr hlk d_T_differ_23
set_option maxRecDepth 100000 in
theorem x_T_differ {l : Launch} {D : va_G} {r0 : Nat} {x1 : Int32} {n : Nat} {h : XH} {rr : Int32}  (hE : X_T_differ r0 x1 h = some rr) : XMet l y_T_differ c_T_differ 3 (some .int) XTs XCL XNW XAL D ({ frames := 4, cells := 0, slots := 0, locals := 90 } : Room) 0 0 [.ref r0, .int x1] n h (some (.int rr)) n h := by
  refine XMet.mk (by decide) xNW_good xTs_good (Nat.le_of_ble_eq_true rfl) ?_
  intro p e s m args below meth c A ad0 hC hr hlk hnm
  refine xi_locs (lv' := [(0, .ref r0), (1, .int x1)]) [0, 1] rfl ?_
  exact s_T_differ_0 hC hr hlk hnm _ _ n h _ hE


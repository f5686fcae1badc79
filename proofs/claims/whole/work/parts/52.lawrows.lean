set_option maxRecDepth 100000 in
set_option maxHeartbeats 8000000 in
theorem s_law_515 {p : Program} {l : Launch} {e : Env} {s : State} {m : MethodId} {below : List Frame} {meth : Method} {c : Code} {D : va_G} {ad0 : Nat → Nat} {n0 b L : Nat} {xs : Nat → Int32} (hC : XC p s m #[Value.ref b] c code 4 R_L XTs XCL XNW XAL D (fun q => s.heap.size ≤ q)) (hX : va_X b L xs s s.heap) (hbl : b < s.heap.size) (hbA : ¬ (fun q => s.heap.size ≤ q) b) (hb0 : ad0 0 = b) (hr : meth.sig.returnType = ret) (hlk : meth.locks = false) {k18 : Nat → Nat → Int32 → Nat → XH → Option Unit} (fu : Nat) (hf : fu + 1 ≤ 600)  (hk18 : ∀ (r1 : Nat) (r2 : Nat) (x3 : Int32) (n1 : Nat) (h1 : XH), k18 r1 r2 x3 n1 h1 = some () → XW p l e room_1 s m #[Value.ref b] below meth c 4 XCL D (fun q => s.heap.size ≤ q) ad0 n0 (34 + (600 - fu) * 6) (4665 + (600 - fu) * 131) (lw_Z below #[Value.ref b] s) n1 h1 18 [(0, .ref 0), (1, .ref r1), (2, .ref r2), (3, .int x3)] []) (r1 : Nat) (r2 : Nat) (x3 : Int32) (n : Nat) (h : XH) (hE : D_law_515 L xs k18 r1 r2 x3 n h = some ()) : XW p l e room_1 s m #[Value.ref b] below meth c 4 XCL D (fun q => s.heap.size ≤ q) ad0 n0 (34 + (600 - fu) * 6) (4665 + (600 - fu) * 131) (lw_Z below #[Value.ref b] s) n h 515 [(0, .ref 0), (1, .ref r1), (2, .ref r2), (3, .int x3)] [] := by
  unfold D_law_515 at hE
  refine xi_iinc (v := x3 + 4) (lv' := [(3, .int (x3 + 4)), (0, .ref 0), (1, .ref r1), (2, .ref r2)]) hC d_law_515 3 rfl rfl (by decide) rfl ?_
  refine xi_goto (tgt := 18) hC d_law_518 (by decide) ?_
  refine xi_locs (lv' := [(0, .ref 0), (1, .ref r1), (2, .ref r2), (3, .int (x3 + 4))]) [1, 2, 3, 0] rfl ?_
  refine xi_widen (k1 := (34 + (600 - fu) * 6)) (k2 := (4665 + (600 - fu) * 131)) (by omega) (by omega) ?_
  exact hk18 _ _ _ _ _ hE
set_option maxRecDepth 100000 in
set_option maxHeartbeats 8000000 in
theorem s_law_194 {p : Program} {l : Launch} {e : Env} {s : State} {m : MethodId} {below : List Frame} {meth : Method} {c : Code} {D : va_G} {ad0 : Nat → Nat} {n0 b L : Nat} {xs : Nat → Int32} (hC : XC p s m #[Value.ref b] c code 4 R_L XTs XCL XNW XAL D (fun q => s.heap.size ≤ q)) (hX : va_X b L xs s s.heap) (hbl : b < s.heap.size) (hbA : ¬ (fun q => s.heap.size ≤ q) b) (hb0 : ad0 0 = b) (hr : meth.sig.returnType = ret) (hlk : meth.locks = false) {k18 : Nat → Nat → Int32 → Nat → XH → Option Unit} (fu : Nat) (hf : fu + 1 ≤ 600)  (hk18 : ∀ (r1 : Nat) (r2 : Nat) (x3 : Int32) (n1 : Nat) (h1 : XH), k18 r1 r2 x3 n1 h1 = some () → XW p l e room_1 s m #[Value.ref b] below meth c 4 XCL D (fun q => s.heap.size ≤ q) ad0 n0 (34 + (600 - fu) * 6) (4665 + (600 - fu) * 131) (lw_Z below #[Value.ref b] s) n1 h1 18 [(0, .ref 0), (1, .ref r1), (2, .ref r2), (3, .int x3)] []) (r1 : Nat) (r2 : Nat) (x3 : Int32) (s0 : Int32) (s1 : Int32) (s2 : Int32) (s3 : Nat) (s4 : Int32) (n : Nat) (h : XH) (hE : D_law_194 L xs k18 r1 r2 x3 s0 s1 s2 s3 s4 n h = some ()) : XW p l e room_1 s m #[Value.ref b] below meth c 4 XCL D (fun q => s.heap.size ≤ q) ad0 n0 (34 + (600 - fu) * 6) (4665 + (600 - fu) * 131) (lw_Z below #[Value.ref b] s) n h 194 [(0, .ref 0), (1, .ref r1), (2, .ref r2), (3, .int x3)] [.int s0, .int s1, .int s2, .ref s3, .int s4] := by
  unfold D_law_194 at hE
  obtain ⟨hI4, hE⟩ := xchk_inv hE
  obtain ⟨v1, h2, hE3, hE⟩ := xb2_inv hE
  refine xi_callV (as := [.int s2, .int s1, .int s0]) (st := [.int s4]) (C := R_M) (T := T_M) (N := 19) hC (x_M_needs hE3) rfl (by decide) hI4 xt_284 xt_285 xt_286 xt_218 xt_283 ⟨by decide, by decide, (by decide +kernel : (parseMethodDescriptor y_M_needs.desc).map (fun d => d.parameters.length) = some 3)⟩ rfl rfl ⟨by decide, by decide⟩ ⟨by show _ ≤ 600000; omega, by show _ ≤ 7302249; omega⟩ (Nat.le_of_ble_eq_true rfl) rfl d_law_194 ?_
  refine xi_stk (st' := [.int v1, .int s4]) rfl ?_
  refine xi_icmp_eq (tgt := 515) hC d_law_197 (by decide) (fun hz5 => ?_) (fun hz5 => ?_)
  · rw [if_pos hz5] at hE
    refine xi_locs (lv' := [(0, .ref 0), (1, .ref r1), (2, .ref r2), (3, .int x3)]) [0, 1, 2, 3] rfl ?_
    refine xi_widen (k1 := (34 + (600 - fu) * 6)) (k2 := (4665 + (600 - fu) * 131)) (by omega) (by omega) ?_
    exact s_law_515 hC hX hbl hbA hb0 hr hlk fu hf hk18 _ _ _ _ _ hE
  · rw [if_neg hz5] at hE
    refine xi_iconst (v := (0 : Int32)) hC d_law_200 (by decide) ?_
    cases hE
set_option maxRecDepth 100000 in
set_option maxHeartbeats 8000000 in
theorem s_law_167 {p : Program} {l : Launch} {e : Env} {s : State} {m : MethodId} {below : List Frame} {meth : Method} {c : Code} {D : va_G} {ad0 : Nat → Nat} {n0 b L : Nat} {xs : Nat → Int32} (hC : XC p s m #[Value.ref b] c code 4 R_L XTs XCL XNW XAL D (fun q => s.heap.size ≤ q)) (hX : va_X b L xs s s.heap) (hbl : b < s.heap.size) (hbA : ¬ (fun q => s.heap.size ≤ q) b) (hb0 : ad0 0 = b) (hr : meth.sig.returnType = ret) (hlk : meth.locks = false) {k18 : Nat → Nat → Int32 → Nat → XH → Option Unit} (fu : Nat) (hf : fu + 1 ≤ 600)  (hk18 : ∀ (r1 : Nat) (r2 : Nat) (x3 : Int32) (n1 : Nat) (h1 : XH), k18 r1 r2 x3 n1 h1 = some () → XW p l e room_1 s m #[Value.ref b] below meth c 4 XCL D (fun q => s.heap.size ≤ q) ad0 n0 (34 + (600 - fu) * 6) (4665 + (600 - fu) * 131) (lw_Z below #[Value.ref b] s) n1 h1 18 [(0, .ref 0), (1, .ref r1), (2, .ref r2), (3, .int x3)] []) (r1 : Nat) (r2 : Nat) (x3 : Int32) (s0 : Int32) (s1 : Int32) (s2 : Int32) (s3 : Nat) (n : Nat) (h : XH) (hE : D_law_167 L xs k18 r1 r2 x3 s0 s1 s2 s3 n h = some ()) : XW p l e room_1 s m #[Value.ref b] below meth c 4 XCL D (fun q => s.heap.size ≤ q) ad0 n0 (34 + (600 - fu) * 6) (4665 + (600 - fu) * 131) (lw_Z below #[Value.ref b] s) n h 167 [(0, .ref 0), (1, .ref r1), (2, .ref r2), (3, .int x3)] [.int s0, .int s1, .int s2, .ref s3] := by
  unfold D_law_167 at hE
  obtain ⟨hI4, hE⟩ := xchk_inv hE
  obtain ⟨v1, h2, hE3, hE⟩ := xb2_inv hE
  refine xi_callV (as := [.int s2, .int s1, .int s0]) (st := []) (C := R_T) (T := T_T) (N := 6) hC (x_T_needs hE3) rfl (by decide) hI4 xt_288 xt_289 xt_290 xt_47 xt_287 ⟨by decide, by decide, (by decide +kernel : (parseMethodDescriptor y_T_needs.desc).map (fun d => d.parameters.length) = some 3)⟩ rfl rfl ⟨by decide, by decide⟩ ⟨by show _ ≤ 600000; omega, by show _ ≤ 7302249; omega⟩ (Nat.le_of_ble_eq_true rfl) rfl d_law_167 ?_
  refine xi_stk (st' := [.int v1]) rfl ?_
  refine xi_aload_n hC d_law_170 rfl 2 rfl ?_
  refine xi_aload_n hC d_law_171 rfl 0 rfl ?_
  refine xi_iload_n hC d_law_172 rfl 3 rfl ?_
  refine xi_iconst (v := (1 : Int32)) hC d_law_173 (by decide) ?_
  refine xi_iadd hC d_law_174 ?_
  obtain ⟨v5, hE6, hE⟩ := xb1_inv hE
  refine xi_sld hC hX hbl hbA hb0 hE6 d_law_175 ?_
  refine xi_aload_n hC d_law_176 rfl 0 rfl ?_
  refine xi_iload_n hC d_law_177 rfl 3 rfl ?_
  refine xi_iconst (v := (2 : Int32)) hC d_law_178 (by decide) ?_
  refine xi_iadd hC d_law_179 ?_
  obtain ⟨v7, hE8, hE⟩ := xb1_inv hE
  refine xi_sld hC hX hbl hbA hb0 hE8 d_law_180 ?_
  refine xi_aload_n hC d_law_181 rfl 0 rfl ?_
  refine xi_iload_n hC d_law_182 rfl 3 rfl ?_
  refine xi_iconst (v := (3 : Int32)) hC d_law_183 (by decide) ?_
  refine xi_iadd hC d_law_184 ?_
  obtain ⟨v9, hE10, hE⟩ := xb1_inv hE
  refine xi_sld hC hX hbl hbA hb0 hE10 d_law_185 ?_
  refine xi_if_eq (tgt := 193) hC d_law_186 (by decide) (fun hz11 => ?_) (fun hz11 => ?_)
  · rw [if_pos hz11] at hE
    refine xi_iconst (v := (0 : Int32)) hC d_law_193 (by decide) ?_
    refine xi_locs (lv' := [(0, .ref 0), (1, .ref r1), (2, .ref r2), (3, .int x3)]) [0, 1, 2, 3] rfl ?_
    refine xi_widen (k1 := (34 + (600 - fu) * 6)) (k2 := (4665 + (600 - fu) * 131)) (by omega) (by omega) ?_
    exact s_law_194 hC hX hbl hbA hb0 hr hlk fu hf hk18 _ _ _ _ _ _ _ _ _ _ hE
  · rw [if_neg hz11] at hE
    refine xi_iconst (v := (1 : Int32)) hC d_law_189 (by decide) ?_
    refine xi_goto (tgt := 194) hC d_law_190 (by decide) ?_
    refine xi_locs (lv' := [(0, .ref 0), (1, .ref r1), (2, .ref r2), (3, .int x3)]) [0, 1, 2, 3] rfl ?_
    refine xi_widen (k1 := (34 + (600 - fu) * 6)) (k2 := (4665 + (600 - fu) * 131)) (by omega) (by omega) ?_
    exact s_law_194 hC hX hbl hbA hb0 hr hlk fu hf hk18 _ _ _ _ _ _ _ _ _ _ hE
set_option maxRecDepth 100000 in
set_option maxHeartbeats 8000000 in
theorem s_law_18 {p : Program} {l : Launch} {e : Env} {s : State} {m : MethodId} {below : List Frame} {meth : Method} {c : Code} {D : va_G} {ad0 : Nat → Nat} {n0 b L : Nat} {xs : Nat → Int32} (hC : XC p s m #[Value.ref b] c code 4 R_L XTs XCL XNW XAL D (fun q => s.heap.size ≤ q)) (hX : va_X b L xs s s.heap) (hbl : b < s.heap.size) (hbA : ¬ (fun q => s.heap.size ≤ q) b) (hb0 : ad0 0 = b) (hr : meth.sig.returnType = ret) (hlk : meth.locks = false) : ∀ (f : Nat), f ≤ 600 → ∀ (r1 : Nat) (r2 : Nat) (x3 : Int32) (n : Nat) (h : XH), D_law_18 L xs f r1 r2 x3 n h = some () → XW p l e room_1 s m #[Value.ref b] below meth c 4 XCL D (fun q => s.heap.size ≤ q) ad0 n0 (34 + (600 - f) * 6) (4665 + (600 - f) * 131) (lw_Z below #[Value.ref b] s) n h 18 [(0, .ref 0), (1, .ref r1), (2, .ref r2), (3, .int x3)] [] := by
  intro f
  induction f with
  | zero =>
    intro hf r1 r2 x3 n h hE
    exact absurd hE (by simp [D_law_18])
  | succ fu ih =>
    intro hf r1 r2 x3 n h hE
    simp only [D_law_18] at hE
    refine xi_iload_n hC d_law_18 rfl 3 rfl ?_
    refine xi_aload_n hC d_law_19 rfl 0 rfl ?_
    refine xi_slen hC hX hbl hbA hb0 d_law_20 ?_
    refine xi_iconst (v := (4 : Int32)) hC d_law_21 (by decide) ?_
    refine xi_isub hC d_law_22 ?_
    refine xi_icmp_gt (tgt := 521) hC d_law_23 (by decide) (fun hz1 => ?_) (fun hz1 => ?_)
    · rw [if_pos hz1] at hE
      refine xi_iconst (v := (1 : Int32)) hC d_law_521 (by decide) ?_
      exact xi_lawret hC hr hlk (by omega) (by omega) d_law_522
    · rw [if_neg hz1] at hE
      refine xi_aload_n hC d_law_26 rfl 0 rfl ?_
      refine xi_iload_n hC d_law_27 rfl 3 rfl ?_
      obtain ⟨v2, hE3, hE⟩ := xb1_inv hE
      refine xi_sld hC hX hbl hbA hb0 hE3 d_law_28 ?_
      refine xi_bipush (v := (15 : Int32)) hC d_law_29 (by decide) ?_
      refine xi_iand hC d_law_31 ?_
      obtain ⟨x4, hxx, hE⟩ := xb1_inv hE
      have hxx := Option.some.inj hxx
      rw [hxx]
      by_cases hz5 : x4 = (0 : Int32)
      · rw [if_pos hz5] at hE
        subst hz5
        refine xi_tswIn (tgt := 100) (off := 68) hC d_law_32 (by decide) (by decide) (by decide) (by decide) ?_
        refine xi_aload_n hC d_law_100 rfl 1 rfl ?_
        refine xi_aload_n hC d_law_101 rfl 0 rfl ?_
        refine xi_iload_n hC d_law_102 rfl 3 rfl ?_
        refine xi_iconst (v := (1 : Int32)) hC d_law_103 (by decide) ?_
        refine xi_iadd hC d_law_104 ?_
        obtain ⟨v6, hE7, hE⟩ := xb1_inv hE
        refine xi_sld hC hX hbl hbA hb0 hE7 d_law_105 ?_
        refine xi_aload_n hC d_law_106 rfl 0 rfl ?_
        refine xi_iload_n hC d_law_107 rfl 3 rfl ?_
        refine xi_iconst (v := (2 : Int32)) hC d_law_108 (by decide) ?_
        refine xi_iadd hC d_law_109 ?_
        obtain ⟨v8, hE9, hE⟩ := xb1_inv hE
        refine xi_sld hC hX hbl hbA hb0 hE9 d_law_110 ?_
        refine xi_aload_n hC d_law_111 rfl 0 rfl ?_
        refine xi_iload_n hC d_law_112 rfl 3 rfl ?_
        refine xi_iconst (v := (3 : Int32)) hC d_law_113 (by decide) ?_
        refine xi_iadd hC d_law_114 ?_
        obtain ⟨v10, hE11, hE⟩ := xb1_inv hE
        refine xi_sld hC hX hbl hbA hb0 hE11 d_law_115 ?_
        obtain ⟨hI15, hE⟩ := xchk_inv hE
        obtain ⟨v12, h13, hE14, hE⟩ := xb2_inv hE
        refine xi_callV (as := [.int v6, .int v8, .int v10]) (st := []) (C := R_T) (T := T_T) (N := 6) hC (x_T_runnable hE14) rfl (by decide) hI15 xt_292 xt_293 xt_294 xt_47 xt_291 ⟨by decide, by decide, (by decide +kernel : (parseMethodDescriptor y_T_runnable.desc).map (fun d => d.parameters.length) = some 3)⟩ rfl rfl ⟨by decide, by decide⟩ ⟨by show _ ≤ 600000; omega, by show _ ≤ 7302249; omega⟩ (Nat.le_of_ble_eq_true rfl) rfl d_law_116 ?_
        refine xi_stk (st' := [.int v12]) rfl ?_
        refine xi_aload_n hC d_law_119 rfl 2 rfl ?_
        refine xi_aload_n hC d_law_120 rfl 0 rfl ?_
        refine xi_iload_n hC d_law_121 rfl 3 rfl ?_
        refine xi_iconst (v := (1 : Int32)) hC d_law_122 (by decide) ?_
        refine xi_iadd hC d_law_123 ?_
        obtain ⟨v16, hE17, hE⟩ := xb1_inv hE
        refine xi_sld hC hX hbl hbA hb0 hE17 d_law_124 ?_
        refine xi_aload_n hC d_law_125 rfl 0 rfl ?_
        refine xi_iload_n hC d_law_126 rfl 3 rfl ?_
        refine xi_iconst (v := (2 : Int32)) hC d_law_127 (by decide) ?_
        refine xi_iadd hC d_law_128 ?_
        obtain ⟨v18, hE19, hE⟩ := xb1_inv hE
        refine xi_sld hC hX hbl hbA hb0 hE19 d_law_129 ?_
        refine xi_aload_n hC d_law_130 rfl 0 rfl ?_
        refine xi_iload_n hC d_law_131 rfl 3 rfl ?_
        refine xi_iconst (v := (3 : Int32)) hC d_law_132 (by decide) ?_
        refine xi_iadd hC d_law_133 ?_
        obtain ⟨v20, hE21, hE⟩ := xb1_inv hE
        refine xi_sld hC hX hbl hbA hb0 hE21 d_law_134 ?_
        obtain ⟨hI25, hE⟩ := xchk_inv hE
        obtain ⟨v22, h23, hE24, hE⟩ := xb2_inv hE
        refine xi_callV (as := [.int v16, .int v18, .int v20]) (st := [.int v12]) (C := R_M) (T := T_M) (N := 19) hC (x_M_runnable hE24) rfl (by decide) hI25 xt_296 xt_297 xt_298 xt_218 xt_295 ⟨by decide, by decide, (by decide +kernel : (parseMethodDescriptor y_M_runnable.desc).map (fun d => d.parameters.length) = some 3)⟩ rfl rfl ⟨by decide, by decide⟩ ⟨by show _ ≤ 600000; omega, by show _ ≤ 7302249; omega⟩ (Nat.le_of_ble_eq_true rfl) rfl d_law_135 ?_
        refine xi_stk (st' := [.int v22, .int v12]) rfl ?_
        refine xi_icmp_eq (tgt := 515) hC d_law_138 (by decide) (fun hz26 => ?_) (fun hz26 => ?_)
        · rw [if_pos hz26] at hE
          refine xi_locs (lv' := [(0, .ref 0), (1, .ref r1), (2, .ref r2), (3, .int x3)]) [0, 1, 2, 3] rfl ?_
          refine xi_widen (k1 := (34 + (600 - fu) * 6)) (k2 := (4665 + (600 - fu) * 131)) (by omega) (by omega) ?_
          exact s_law_515 hC hX hbl hbA hb0 hr hlk fu hf (fun y0 y1 y2 n1 h1 z => ih (by omega) y0 y1 y2 n1 h1 z) _ _ _ _ _ hE
        · rw [if_neg hz26] at hE
          refine xi_iconst (v := (0 : Int32)) hC d_law_141 (by decide) ?_
          cases hE
      rw [if_neg hz5] at hE
      by_cases hz27 : x4 = (1 : Int32)
      · rw [if_pos hz27] at hE
        subst hz27
        refine xi_tswIn (tgt := 143) (off := 111) hC d_law_32 (by decide) (by decide) (by decide) (by decide) ?_
        refine xi_aload_n hC d_law_143 rfl 1 rfl ?_
        refine xi_aload_n hC d_law_144 rfl 0 rfl ?_
        refine xi_iload_n hC d_law_145 rfl 3 rfl ?_
        refine xi_iconst (v := (1 : Int32)) hC d_law_146 (by decide) ?_
        refine xi_iadd hC d_law_147 ?_
        obtain ⟨v28, hE29, hE⟩ := xb1_inv hE
        refine xi_sld hC hX hbl hbA hb0 hE29 d_law_148 ?_
        refine xi_aload_n hC d_law_149 rfl 0 rfl ?_
        refine xi_iload_n hC d_law_150 rfl 3 rfl ?_
        refine xi_iconst (v := (2 : Int32)) hC d_law_151 (by decide) ?_
        refine xi_iadd hC d_law_152 ?_
        obtain ⟨v30, hE31, hE⟩ := xb1_inv hE
        refine xi_sld hC hX hbl hbA hb0 hE31 d_law_153 ?_
        refine xi_aload_n hC d_law_154 rfl 0 rfl ?_
        refine xi_iload_n hC d_law_155 rfl 3 rfl ?_
        refine xi_iconst (v := (3 : Int32)) hC d_law_156 (by decide) ?_
        refine xi_iadd hC d_law_157 ?_
        obtain ⟨v32, hE33, hE⟩ := xb1_inv hE
        refine xi_sld hC hX hbl hbA hb0 hE33 d_law_158 ?_
        refine xi_if_eq (tgt := 166) hC d_law_159 (by decide) (fun hz34 => ?_) (fun hz34 => ?_)
        · rw [if_pos hz34] at hE
          refine xi_iconst (v := (0 : Int32)) hC d_law_166 (by decide) ?_
          refine xi_locs (lv' := [(0, .ref 0), (1, .ref r1), (2, .ref r2), (3, .int x3)]) [0, 1, 2, 3] rfl ?_
          refine xi_widen (k1 := (34 + (600 - fu) * 6)) (k2 := (4665 + (600 - fu) * 131)) (by omega) (by omega) ?_
          exact s_law_167 hC hX hbl hbA hb0 hr hlk fu hf (fun y0 y1 y2 n1 h1 z => ih (by omega) y0 y1 y2 n1 h1 z) _ _ _ _ _ _ _ _ _ hE
        · rw [if_neg hz34] at hE
          refine xi_iconst (v := (1 : Int32)) hC d_law_162 (by decide) ?_
          refine xi_goto (tgt := 167) hC d_law_163 (by decide) ?_
          refine xi_locs (lv' := [(0, .ref 0), (1, .ref r1), (2, .ref r2), (3, .int x3)]) [0, 1, 2, 3] rfl ?_
          refine xi_widen (k1 := (34 + (600 - fu) * 6)) (k2 := (4665 + (600 - fu) * 131)) (by omega) (by omega) ?_
          exact s_law_167 hC hX hbl hbA hb0 hr hlk fu hf (fun y0 y1 y2 n1 h1 z => ih (by omega) y0 y1 y2 n1 h1 z) _ _ _ _ _ _ _ _ _ hE
      rw [if_neg hz27] at hE
      by_cases hz35 : x4 = (2 : Int32)
      · rw [if_pos hz35] at hE
        subst hz35
        refine xi_tswIn (tgt := 202) (off := 170) hC d_law_32 (by decide) (by decide) (by decide) (by decide) ?_
        refine xi_aload_n hC d_law_202 rfl 1 rfl ?_
        refine xi_aload_n hC d_law_203 rfl 0 rfl ?_
        refine xi_iload_n hC d_law_204 rfl 3 rfl ?_
        refine xi_iconst (v := (1 : Int32)) hC d_law_205 (by decide) ?_
        refine xi_iadd hC d_law_206 ?_
        obtain ⟨v36, hE37, hE⟩ := xb1_inv hE
        refine xi_sld hC hX hbl hbA hb0 hE37 d_law_207 ?_
        refine xi_aload_n hC d_law_208 rfl 0 rfl ?_
        refine xi_iload_n hC d_law_209 rfl 3 rfl ?_
        refine xi_iconst (v := (2 : Int32)) hC d_law_210 (by decide) ?_
        refine xi_iadd hC d_law_211 ?_
        obtain ⟨v38, hE39, hE⟩ := xb1_inv hE
        refine xi_sld hC hX hbl hbA hb0 hE39 d_law_212 ?_
        obtain ⟨hI43, hE⟩ := xchk_inv hE
        obtain ⟨v40, h41, hE42, hE⟩ := xb2_inv hE
        refine xi_callV (as := [.int v36, .int v38]) (st := []) (C := R_T) (T := T_T) (N := 6) hC (x_T_area hE42) rfl (by decide) hI43 xt_300 xt_301 xt_302 xt_47 xt_299 ⟨by decide, by decide, (by decide +kernel : (parseMethodDescriptor y_T_area.desc).map (fun d => d.parameters.length) = some 2)⟩ rfl rfl ⟨by decide, by decide⟩ ⟨by show _ ≤ 600000; omega, by show _ ≤ 7302249; omega⟩ (Nat.le_of_ble_eq_true rfl) rfl d_law_213 ?_
        refine xi_stk (st' := [.int v40]) rfl ?_
        refine xi_aload_n hC d_law_216 rfl 2 rfl ?_
        refine xi_aload_n hC d_law_217 rfl 0 rfl ?_
        refine xi_iload_n hC d_law_218 rfl 3 rfl ?_
        refine xi_iconst (v := (1 : Int32)) hC d_law_219 (by decide) ?_
        refine xi_iadd hC d_law_220 ?_
        obtain ⟨v44, hE45, hE⟩ := xb1_inv hE
        refine xi_sld hC hX hbl hbA hb0 hE45 d_law_221 ?_
        refine xi_aload_n hC d_law_222 rfl 0 rfl ?_
        refine xi_iload_n hC d_law_223 rfl 3 rfl ?_
        refine xi_iconst (v := (2 : Int32)) hC d_law_224 (by decide) ?_
        refine xi_iadd hC d_law_225 ?_
        obtain ⟨v46, hE47, hE⟩ := xb1_inv hE
        refine xi_sld hC hX hbl hbA hb0 hE47 d_law_226 ?_
        obtain ⟨hI51, hE⟩ := xchk_inv hE
        obtain ⟨v48, h49, hE50, hE⟩ := xb2_inv hE
        refine xi_callV (as := [.int v44, .int v46]) (st := [.int v40]) (C := R_M) (T := T_M) (N := 19) hC (x_M_area hE50) rfl (by decide) hI51 xt_304 xt_305 xt_306 xt_218 xt_303 ⟨by decide, by decide, (by decide +kernel : (parseMethodDescriptor y_M_area.desc).map (fun d => d.parameters.length) = some 2)⟩ rfl rfl ⟨by decide, by decide⟩ ⟨by show _ ≤ 600000; omega, by show _ ≤ 7302249; omega⟩ (Nat.le_of_ble_eq_true rfl) rfl d_law_227 ?_
        refine xi_stk (st' := [.int v48, .int v40]) rfl ?_
        refine xi_icmp_eq (tgt := 515) hC d_law_230 (by decide) (fun hz52 => ?_) (fun hz52 => ?_)
        · rw [if_pos hz52] at hE
          refine xi_locs (lv' := [(0, .ref 0), (1, .ref r1), (2, .ref r2), (3, .int x3)]) [0, 1, 2, 3] rfl ?_
          refine xi_widen (k1 := (34 + (600 - fu) * 6)) (k2 := (4665 + (600 - fu) * 131)) (by omega) (by omega) ?_
          exact s_law_515 hC hX hbl hbA hb0 hr hlk fu hf (fun y0 y1 y2 n1 h1 z => ih (by omega) y0 y1 y2 n1 h1 z) _ _ _ _ _ hE
        · rw [if_neg hz52] at hE
          refine xi_iconst (v := (0 : Int32)) hC d_law_233 (by decide) ?_
          cases hE
      rw [if_neg hz35] at hE
      by_cases hz53 : x4 = (3 : Int32)
      · rw [if_pos hz53] at hE
        subst hz53
        refine xi_tswIn (tgt := 235) (off := 203) hC d_law_32 (by decide) (by decide) (by decide) (by decide) ?_
        refine xi_aload_n hC d_law_235 rfl 1 rfl ?_
        obtain ⟨hI58, hE⟩ := xchk_inv hE
        obtain ⟨v54, n55, h56, hE57, hE⟩ := xb3_inv hE
        refine xi_callV (as := []) (st := []) (C := R_T) (T := T_T) (N := 6) hC (x_T_build hE57) rfl (by decide) hI58 xt_308 xt_309 xt_310 xt_47 xt_307 ⟨by decide, by decide, (by decide +kernel : (parseMethodDescriptor y_T_build.desc).map (fun d => d.parameters.length) = some 0)⟩ rfl rfl ⟨by decide, by decide⟩ ⟨by show _ ≤ 600000; omega, by show _ ≤ 7302249; omega⟩ (Nat.le_of_ble_eq_true rfl) rfl d_law_236 ?_
        refine xi_stk (st' := [.int v54]) rfl ?_
        refine xi_aload_n hC d_law_239 rfl 2 rfl ?_
        obtain ⟨hI62, hE⟩ := xchk_inv hE
        obtain ⟨v59, h60, hE61, hE⟩ := xb2_inv hE
        refine xi_callV (as := []) (st := [.int v54]) (C := R_M) (T := T_M) (N := 19) hC (x_M_build hE61) rfl (by decide) hI62 xt_312 xt_313 xt_314 xt_218 xt_311 ⟨by decide, by decide, (by decide +kernel : (parseMethodDescriptor y_M_build.desc).map (fun d => d.parameters.length) = some 0)⟩ rfl rfl ⟨by decide, by decide⟩ ⟨by show _ ≤ 600000; omega, by show _ ≤ 7302249; omega⟩ (Nat.le_of_ble_eq_true rfl) rfl d_law_240 ?_
        refine xi_stk (st' := [.int v59, .int v54]) rfl ?_
        refine xi_icmp_eq (tgt := 515) hC d_law_243 (by decide) (fun hz63 => ?_) (fun hz63 => ?_)
        · rw [if_pos hz63] at hE
          refine xi_locs (lv' := [(0, .ref 0), (1, .ref r1), (2, .ref r2), (3, .int x3)]) [0, 1, 2, 3] rfl ?_
          refine xi_widen (k1 := (34 + (600 - fu) * 6)) (k2 := (4665 + (600 - fu) * 131)) (by omega) (by omega) ?_
          exact s_law_515 hC hX hbl hbA hb0 hr hlk fu hf (fun y0 y1 y2 n1 h1 z => ih (by omega) y0 y1 y2 n1 h1 z) _ _ _ _ _ hE
        · rw [if_neg hz63] at hE
          refine xi_iconst (v := (0 : Int32)) hC d_law_246 (by decide) ?_
          cases hE
      rw [if_neg hz53] at hE
      by_cases hz64 : x4 = (4 : Int32)
      · rw [if_pos hz64] at hE
        subst hz64
        refine xi_tswIn (tgt := 248) (off := 216) hC d_law_32 (by decide) (by decide) (by decide) (by decide) ?_
        refine xi_aload_n hC d_law_248 rfl 1 rfl ?_
        refine xi_aload_n hC d_law_249 rfl 0 rfl ?_
        refine xi_iload_n hC d_law_250 rfl 3 rfl ?_
        refine xi_iconst (v := (1 : Int32)) hC d_law_251 (by decide) ?_
        refine xi_iadd hC d_law_252 ?_
        obtain ⟨v65, hE66, hE⟩ := xb1_inv hE
        refine xi_sld hC hX hbl hbA hb0 hE66 d_law_253 ?_
        obtain ⟨hI69, hE⟩ := xchk_inv hE
        obtain ⟨v67, hE68, hE⟩ := xb1_inv hE
        refine xi_callV (as := [.int v65]) (st := []) (C := R_T) (T := T_T) (N := 6) hC (x_T_task hE68) rfl (by decide) hI69 xt_316 xt_317 xt_318 xt_47 xt_315 ⟨by decide, by decide, (by decide +kernel : (parseMethodDescriptor y_T_task.desc).map (fun d => d.parameters.length) = some 1)⟩ rfl rfl ⟨by decide, by decide⟩ ⟨by show _ ≤ 600000; omega, by show _ ≤ 7302249; omega⟩ (Nat.le_of_ble_eq_true rfl) rfl d_law_254 ?_
        refine xi_stk (st' := [.int v67]) rfl ?_
        refine xi_aload_n hC d_law_257 rfl 2 rfl ?_
        refine xi_aload_n hC d_law_258 rfl 0 rfl ?_
        refine xi_iload_n hC d_law_259 rfl 3 rfl ?_
        refine xi_iconst (v := (1 : Int32)) hC d_law_260 (by decide) ?_
        refine xi_iadd hC d_law_261 ?_
        obtain ⟨v70, hE71, hE⟩ := xb1_inv hE
        refine xi_sld hC hX hbl hbA hb0 hE71 d_law_262 ?_
        obtain ⟨hI75, hE⟩ := xchk_inv hE
        obtain ⟨v72, h73, hE74, hE⟩ := xb2_inv hE
        refine xi_callV (as := [.int v70]) (st := [.int v67]) (C := R_M) (T := T_M) (N := 19) hC (x_M_task hE74) rfl (by decide) hI75 xt_320 xt_321 xt_322 xt_218 xt_319 ⟨by decide, by decide, (by decide +kernel : (parseMethodDescriptor y_M_task.desc).map (fun d => d.parameters.length) = some 1)⟩ rfl rfl ⟨by decide, by decide⟩ ⟨by show _ ≤ 600000; omega, by show _ ≤ 7302249; omega⟩ (Nat.le_of_ble_eq_true rfl) rfl d_law_263 ?_
        refine xi_stk (st' := [.int v72, .int v67]) rfl ?_
        refine xi_icmp_eq (tgt := 515) hC d_law_266 (by decide) (fun hz76 => ?_) (fun hz76 => ?_)
        · rw [if_pos hz76] at hE
          refine xi_locs (lv' := [(0, .ref 0), (1, .ref r1), (2, .ref r2), (3, .int x3)]) [0, 1, 2, 3] rfl ?_
          refine xi_widen (k1 := (34 + (600 - fu) * 6)) (k2 := (4665 + (600 - fu) * 131)) (by omega) (by omega) ?_
          exact s_law_515 hC hX hbl hbA hb0 hr hlk fu hf (fun y0 y1 y2 n1 h1 z => ih (by omega) y0 y1 y2 n1 h1 z) _ _ _ _ _ hE
        · rw [if_neg hz76] at hE
          refine xi_iconst (v := (0 : Int32)) hC d_law_269 (by decide) ?_
          cases hE
      rw [if_neg hz64] at hE
      by_cases hz77 : x4 = (5 : Int32)
      · rw [if_pos hz77] at hE
        subst hz77
        refine xi_tswIn (tgt := 271) (off := 239) hC d_law_32 (by decide) (by decide) (by decide) (by decide) ?_
        refine xi_aload_n hC d_law_271 rfl 1 rfl ?_
        refine xi_aload_n hC d_law_272 rfl 0 rfl ?_
        refine xi_iload_n hC d_law_273 rfl 3 rfl ?_
        refine xi_iconst (v := (1 : Int32)) hC d_law_274 (by decide) ?_
        refine xi_iadd hC d_law_275 ?_
        obtain ⟨v78, hE79, hE⟩ := xb1_inv hE
        refine xi_sld hC hX hbl hbA hb0 hE79 d_law_276 ?_
        refine xi_aload_n hC d_law_277 rfl 0 rfl ?_
        refine xi_iload_n hC d_law_278 rfl 3 rfl ?_
        refine xi_iconst (v := (2 : Int32)) hC d_law_279 (by decide) ?_
        refine xi_iadd hC d_law_280 ?_
        obtain ⟨v80, hE81, hE⟩ := xb1_inv hE
        refine xi_sld hC hX hbl hbA hb0 hE81 d_law_281 ?_
        obtain ⟨hI84, hE⟩ := xchk_inv hE
        obtain ⟨v82, hE83, hE⟩ := xb1_inv hE
        refine xi_callV (as := [.int v78, .int v80]) (st := []) (C := R_T) (T := T_T) (N := 6) hC (x_T_order hE83) rfl (by decide) hI84 xt_324 xt_325 xt_326 xt_47 xt_323 ⟨by decide, by decide, (by decide +kernel : (parseMethodDescriptor y_T_order.desc).map (fun d => d.parameters.length) = some 2)⟩ rfl rfl ⟨by decide, by decide⟩ ⟨by show _ ≤ 600000; omega, by show _ ≤ 7302249; omega⟩ (Nat.le_of_ble_eq_true rfl) rfl d_law_282 ?_
        refine xi_stk (st' := [.int v82]) rfl ?_
        refine xi_aload_n hC d_law_285 rfl 2 rfl ?_
        refine xi_aload_n hC d_law_286 rfl 0 rfl ?_
        refine xi_iload_n hC d_law_287 rfl 3 rfl ?_
        refine xi_iconst (v := (1 : Int32)) hC d_law_288 (by decide) ?_
        refine xi_iadd hC d_law_289 ?_
        obtain ⟨v85, hE86, hE⟩ := xb1_inv hE
        refine xi_sld hC hX hbl hbA hb0 hE86 d_law_290 ?_
        refine xi_aload_n hC d_law_291 rfl 0 rfl ?_
        refine xi_iload_n hC d_law_292 rfl 3 rfl ?_
        refine xi_iconst (v := (2 : Int32)) hC d_law_293 (by decide) ?_
        refine xi_iadd hC d_law_294 ?_
        obtain ⟨v87, hE88, hE⟩ := xb1_inv hE
        refine xi_sld hC hX hbl hbA hb0 hE88 d_law_295 ?_
        obtain ⟨hI92, hE⟩ := xchk_inv hE
        obtain ⟨v89, h90, hE91, hE⟩ := xb2_inv hE
        refine xi_callV (as := [.int v85, .int v87]) (st := [.int v82]) (C := R_M) (T := T_M) (N := 19) hC (x_M_order hE91) rfl (by decide) hI92 xt_328 xt_329 xt_330 xt_218 xt_327 ⟨by decide, by decide, (by decide +kernel : (parseMethodDescriptor y_M_order.desc).map (fun d => d.parameters.length) = some 2)⟩ rfl rfl ⟨by decide, by decide⟩ ⟨by show _ ≤ 600000; omega, by show _ ≤ 7302249; omega⟩ (Nat.le_of_ble_eq_true rfl) rfl d_law_296 ?_
        refine xi_stk (st' := [.int v89, .int v82]) rfl ?_
        refine xi_icmp_eq (tgt := 515) hC d_law_299 (by decide) (fun hz93 => ?_) (fun hz93 => ?_)
        · rw [if_pos hz93] at hE
          refine xi_locs (lv' := [(0, .ref 0), (1, .ref r1), (2, .ref r2), (3, .int x3)]) [0, 1, 2, 3] rfl ?_
          refine xi_widen (k1 := (34 + (600 - fu) * 6)) (k2 := (4665 + (600 - fu) * 131)) (by omega) (by omega) ?_
          exact s_law_515 hC hX hbl hbA hb0 hr hlk fu hf (fun y0 y1 y2 n1 h1 z => ih (by omega) y0 y1 y2 n1 h1 z) _ _ _ _ _ hE
        · rw [if_neg hz93] at hE
          refine xi_iconst (v := (0 : Int32)) hC d_law_302 (by decide) ?_
          cases hE
      rw [if_neg hz77] at hE
      by_cases hz94 : x4 = (6 : Int32)
      · rw [if_pos hz94] at hE
        subst hz94
        refine xi_tswIn (tgt := 304) (off := 272) hC d_law_32 (by decide) (by decide) (by decide) (by decide) ?_
        refine xi_aload_n hC d_law_304 rfl 1 rfl ?_
        refine xi_aload_n hC d_law_305 rfl 0 rfl ?_
        refine xi_iload_n hC d_law_306 rfl 3 rfl ?_
        refine xi_iconst (v := (1 : Int32)) hC d_law_307 (by decide) ?_
        refine xi_iadd hC d_law_308 ?_
        obtain ⟨v95, hE96, hE⟩ := xb1_inv hE
        refine xi_sld hC hX hbl hbA hb0 hE96 d_law_309 ?_
        obtain ⟨hI99, hE⟩ := xchk_inv hE
        obtain ⟨v97, hE98, hE⟩ := xb1_inv hE
        refine xi_callV (as := [.int v95]) (st := []) (C := R_T) (T := T_T) (N := 6) hC (x_T_rank hE98) rfl (by decide) hI99 xt_332 xt_333 xt_334 xt_47 xt_331 ⟨by decide, by decide, (by decide +kernel : (parseMethodDescriptor y_T_rank.desc).map (fun d => d.parameters.length) = some 1)⟩ rfl rfl ⟨by decide, by decide⟩ ⟨by show _ ≤ 600000; omega, by show _ ≤ 7302249; omega⟩ (Nat.le_of_ble_eq_true rfl) rfl d_law_310 ?_
        refine xi_stk (st' := [.int v97]) rfl ?_
        refine xi_aload_n hC d_law_313 rfl 2 rfl ?_
        refine xi_aload_n hC d_law_314 rfl 0 rfl ?_
        refine xi_iload_n hC d_law_315 rfl 3 rfl ?_
        refine xi_iconst (v := (1 : Int32)) hC d_law_316 (by decide) ?_
        refine xi_iadd hC d_law_317 ?_
        obtain ⟨v100, hE101, hE⟩ := xb1_inv hE
        refine xi_sld hC hX hbl hbA hb0 hE101 d_law_318 ?_
        obtain ⟨hI105, hE⟩ := xchk_inv hE
        obtain ⟨v102, h103, hE104, hE⟩ := xb2_inv hE
        refine xi_callV (as := [.int v100]) (st := [.int v97]) (C := R_M) (T := T_M) (N := 19) hC (x_M_rank hE104) rfl (by decide) hI105 xt_336 xt_337 xt_338 xt_218 xt_335 ⟨by decide, by decide, (by decide +kernel : (parseMethodDescriptor y_M_rank.desc).map (fun d => d.parameters.length) = some 1)⟩ rfl rfl ⟨by decide, by decide⟩ ⟨by show _ ≤ 600000; omega, by show _ ≤ 7302249; omega⟩ (Nat.le_of_ble_eq_true rfl) rfl d_law_319 ?_
        refine xi_stk (st' := [.int v102, .int v97]) rfl ?_
        refine xi_icmp_eq (tgt := 515) hC d_law_322 (by decide) (fun hz106 => ?_) (fun hz106 => ?_)
        · rw [if_pos hz106] at hE
          refine xi_locs (lv' := [(0, .ref 0), (1, .ref r1), (2, .ref r2), (3, .int x3)]) [0, 1, 2, 3] rfl ?_
          refine xi_widen (k1 := (34 + (600 - fu) * 6)) (k2 := (4665 + (600 - fu) * 131)) (by omega) (by omega) ?_
          exact s_law_515 hC hX hbl hbA hb0 hr hlk fu hf (fun y0 y1 y2 n1 h1 z => ih (by omega) y0 y1 y2 n1 h1 z) _ _ _ _ _ hE
        · rw [if_neg hz106] at hE
          refine xi_iconst (v := (0 : Int32)) hC d_law_325 (by decide) ?_
          cases hE
      rw [if_neg hz94] at hE
      by_cases hz107 : x4 = (7 : Int32)
      · rw [if_pos hz107] at hE
        subst hz107
        refine xi_tswIn (tgt := 327) (off := 295) hC d_law_32 (by decide) (by decide) (by decide) (by decide) ?_
        refine xi_aload_n hC d_law_327 rfl 1 rfl ?_
        refine xi_aload_n hC d_law_328 rfl 0 rfl ?_
        refine xi_iload_n hC d_law_329 rfl 3 rfl ?_
        refine xi_iconst (v := (1 : Int32)) hC d_law_330 (by decide) ?_
        refine xi_iadd hC d_law_331 ?_
        obtain ⟨v108, hE109, hE⟩ := xb1_inv hE
        refine xi_sld hC hX hbl hbA hb0 hE109 d_law_332 ?_
        obtain ⟨hI112, hE⟩ := xchk_inv hE
        obtain ⟨v110, hE111, hE⟩ := xb1_inv hE
        refine xi_callV (as := [.int v108]) (st := []) (C := R_T) (T := T_T) (N := 6) hC (x_T_buffer hE111) rfl (by decide) hI112 xt_340 xt_341 xt_342 xt_47 xt_339 ⟨by decide, by decide, (by decide +kernel : (parseMethodDescriptor y_T_buffer.desc).map (fun d => d.parameters.length) = some 1)⟩ rfl rfl ⟨by decide, by decide⟩ ⟨by show _ ≤ 600000; omega, by show _ ≤ 7302249; omega⟩ (Nat.le_of_ble_eq_true rfl) rfl d_law_333 ?_
        refine xi_stk (st' := [.int v110]) rfl ?_
        refine xi_aload_n hC d_law_336 rfl 2 rfl ?_
        refine xi_aload_n hC d_law_337 rfl 0 rfl ?_
        refine xi_iload_n hC d_law_338 rfl 3 rfl ?_
        refine xi_iconst (v := (1 : Int32)) hC d_law_339 (by decide) ?_
        refine xi_iadd hC d_law_340 ?_
        obtain ⟨v113, hE114, hE⟩ := xb1_inv hE
        refine xi_sld hC hX hbl hbA hb0 hE114 d_law_341 ?_
        obtain ⟨hI118, hE⟩ := xchk_inv hE
        obtain ⟨v115, h116, hE117, hE⟩ := xb2_inv hE
        refine xi_callV (as := [.int v113]) (st := [.int v110]) (C := R_M) (T := T_M) (N := 19) hC (x_M_buffer hE117) rfl (by decide) hI118 xt_344 xt_345 xt_346 xt_218 xt_343 ⟨by decide, by decide, (by decide +kernel : (parseMethodDescriptor y_M_buffer.desc).map (fun d => d.parameters.length) = some 1)⟩ rfl rfl ⟨by decide, by decide⟩ ⟨by show _ ≤ 600000; omega, by show _ ≤ 7302249; omega⟩ (Nat.le_of_ble_eq_true rfl) rfl d_law_342 ?_
        refine xi_stk (st' := [.int v115, .int v110]) rfl ?_
        refine xi_icmp_eq (tgt := 515) hC d_law_345 (by decide) (fun hz119 => ?_) (fun hz119 => ?_)
        · rw [if_pos hz119] at hE
          refine xi_locs (lv' := [(0, .ref 0), (1, .ref r1), (2, .ref r2), (3, .int x3)]) [0, 1, 2, 3] rfl ?_
          refine xi_widen (k1 := (34 + (600 - fu) * 6)) (k2 := (4665 + (600 - fu) * 131)) (by omega) (by omega) ?_
          exact s_law_515 hC hX hbl hbA hb0 hr hlk fu hf (fun y0 y1 y2 n1 h1 z => ih (by omega) y0 y1 y2 n1 h1 z) _ _ _ _ _ hE
        · rw [if_neg hz119] at hE
          refine xi_iconst (v := (0 : Int32)) hC d_law_348 (by decide) ?_
          cases hE
      rw [if_neg hz107] at hE
      by_cases hz120 : x4 = (8 : Int32)
      · rw [if_pos hz120] at hE
        subst hz120
        refine xi_tswIn (tgt := 350) (off := 318) hC d_law_32 (by decide) (by decide) (by decide) (by decide) ?_
        refine xi_aload_n hC d_law_350 rfl 1 rfl ?_
        refine xi_aload_n hC d_law_351 rfl 0 rfl ?_
        refine xi_iload_n hC d_law_352 rfl 3 rfl ?_
        refine xi_iconst (v := (1 : Int32)) hC d_law_353 (by decide) ?_
        refine xi_iadd hC d_law_354 ?_
        obtain ⟨v121, hE122, hE⟩ := xb1_inv hE
        refine xi_sld hC hX hbl hbA hb0 hE122 d_law_355 ?_
        refine xi_aload_n hC d_law_356 rfl 0 rfl ?_
        refine xi_iload_n hC d_law_357 rfl 3 rfl ?_
        refine xi_iconst (v := (2 : Int32)) hC d_law_358 (by decide) ?_
        refine xi_iadd hC d_law_359 ?_
        obtain ⟨v123, hE124, hE⟩ := xb1_inv hE
        refine xi_sld hC hX hbl hbA hb0 hE124 d_law_360 ?_
        obtain ⟨hI127, hE⟩ := xchk_inv hE
        obtain ⟨v125, hE126, hE⟩ := xb1_inv hE
        refine xi_callV (as := [.int v121, .int v123]) (st := []) (C := R_T) (T := T_T) (N := 6) hC (x_T_table hE126) rfl (by decide) hI127 xt_348 xt_349 xt_350 xt_47 xt_347 ⟨by decide, by decide, (by decide +kernel : (parseMethodDescriptor y_T_table.desc).map (fun d => d.parameters.length) = some 2)⟩ rfl rfl ⟨by decide, by decide⟩ ⟨by show _ ≤ 600000; omega, by show _ ≤ 7302249; omega⟩ (Nat.le_of_ble_eq_true rfl) rfl d_law_361 ?_
        refine xi_stk (st' := [.int v125]) rfl ?_
        refine xi_aload_n hC d_law_364 rfl 2 rfl ?_
        refine xi_aload_n hC d_law_365 rfl 0 rfl ?_
        refine xi_iload_n hC d_law_366 rfl 3 rfl ?_
        refine xi_iconst (v := (1 : Int32)) hC d_law_367 (by decide) ?_
        refine xi_iadd hC d_law_368 ?_
        obtain ⟨v128, hE129, hE⟩ := xb1_inv hE
        refine xi_sld hC hX hbl hbA hb0 hE129 d_law_369 ?_
        refine xi_aload_n hC d_law_370 rfl 0 rfl ?_
        refine xi_iload_n hC d_law_371 rfl 3 rfl ?_
        refine xi_iconst (v := (2 : Int32)) hC d_law_372 (by decide) ?_
        refine xi_iadd hC d_law_373 ?_
        obtain ⟨v130, hE131, hE⟩ := xb1_inv hE
        refine xi_sld hC hX hbl hbA hb0 hE131 d_law_374 ?_
        obtain ⟨hI135, hE⟩ := xchk_inv hE
        obtain ⟨v132, h133, hE134, hE⟩ := xb2_inv hE
        refine xi_callV (as := [.int v128, .int v130]) (st := [.int v125]) (C := R_M) (T := T_M) (N := 19) hC (x_M_table hE134) rfl (by decide) hI135 xt_352 xt_353 xt_354 xt_218 xt_351 ⟨by decide, by decide, (by decide +kernel : (parseMethodDescriptor y_M_table.desc).map (fun d => d.parameters.length) = some 2)⟩ rfl rfl ⟨by decide, by decide⟩ ⟨by show _ ≤ 600000; omega, by show _ ≤ 7302249; omega⟩ (Nat.le_of_ble_eq_true rfl) rfl d_law_375 ?_
        refine xi_stk (st' := [.int v132, .int v125]) rfl ?_
        refine xi_icmp_eq (tgt := 515) hC d_law_378 (by decide) (fun hz136 => ?_) (fun hz136 => ?_)
        · rw [if_pos hz136] at hE
          refine xi_locs (lv' := [(0, .ref 0), (1, .ref r1), (2, .ref r2), (3, .int x3)]) [0, 1, 2, 3] rfl ?_
          refine xi_widen (k1 := (34 + (600 - fu) * 6)) (k2 := (4665 + (600 - fu) * 131)) (by omega) (by omega) ?_
          exact s_law_515 hC hX hbl hbA hb0 hr hlk fu hf (fun y0 y1 y2 n1 h1 z => ih (by omega) y0 y1 y2 n1 h1 z) _ _ _ _ _ hE
        · rw [if_neg hz136] at hE
          refine xi_iconst (v := (0 : Int32)) hC d_law_381 (by decide) ?_
          cases hE
      rw [if_neg hz120] at hE
      by_cases hz137 : x4 = (9 : Int32)
      · rw [if_pos hz137] at hE
        subst hz137
        refine xi_tswIn (tgt := 383) (off := 351) hC d_law_32 (by decide) (by decide) (by decide) (by decide) ?_
        refine xi_aload_n hC d_law_383 rfl 1 rfl ?_
        refine xi_aload_n hC d_law_384 rfl 0 rfl ?_
        refine xi_iload_n hC d_law_385 rfl 3 rfl ?_
        refine xi_iconst (v := (1 : Int32)) hC d_law_386 (by decide) ?_
        refine xi_iadd hC d_law_387 ?_
        obtain ⟨v138, hE139, hE⟩ := xb1_inv hE
        refine xi_sld hC hX hbl hbA hb0 hE139 d_law_388 ?_
        obtain ⟨hI142, hE⟩ := xchk_inv hE
        obtain ⟨v140, hE141, hE⟩ := xb1_inv hE
        refine xi_callV (as := [.int v138]) (st := []) (C := R_T) (T := T_T) (N := 6) hC (x_T_ring hE141) rfl (by decide) hI142 xt_356 xt_357 xt_358 xt_47 xt_355 ⟨by decide, by decide, (by decide +kernel : (parseMethodDescriptor y_T_ring.desc).map (fun d => d.parameters.length) = some 1)⟩ rfl rfl ⟨by decide, by decide⟩ ⟨by show _ ≤ 600000; omega, by show _ ≤ 7302249; omega⟩ (Nat.le_of_ble_eq_true rfl) rfl d_law_389 ?_
        refine xi_stk (st' := [.int v140]) rfl ?_
        refine xi_aload_n hC d_law_392 rfl 2 rfl ?_
        refine xi_aload_n hC d_law_393 rfl 0 rfl ?_
        refine xi_iload_n hC d_law_394 rfl 3 rfl ?_
        refine xi_iconst (v := (1 : Int32)) hC d_law_395 (by decide) ?_
        refine xi_iadd hC d_law_396 ?_
        obtain ⟨v143, hE144, hE⟩ := xb1_inv hE
        refine xi_sld hC hX hbl hbA hb0 hE144 d_law_397 ?_
        obtain ⟨hI148, hE⟩ := xchk_inv hE
        obtain ⟨v145, h146, hE147, hE⟩ := xb2_inv hE
        refine xi_callV (as := [.int v143]) (st := [.int v140]) (C := R_M) (T := T_M) (N := 19) hC (x_M_ring hE147) rfl (by decide) hI148 xt_360 xt_361 xt_362 xt_218 xt_359 ⟨by decide, by decide, (by decide +kernel : (parseMethodDescriptor y_M_ring.desc).map (fun d => d.parameters.length) = some 1)⟩ rfl rfl ⟨by decide, by decide⟩ ⟨by show _ ≤ 600000; omega, by show _ ≤ 7302249; omega⟩ (Nat.le_of_ble_eq_true rfl) rfl d_law_398 ?_
        refine xi_stk (st' := [.int v145, .int v140]) rfl ?_
        refine xi_icmp_eq (tgt := 515) hC d_law_401 (by decide) (fun hz149 => ?_) (fun hz149 => ?_)
        · rw [if_pos hz149] at hE
          refine xi_locs (lv' := [(0, .ref 0), (1, .ref r1), (2, .ref r2), (3, .int x3)]) [0, 1, 2, 3] rfl ?_
          refine xi_widen (k1 := (34 + (600 - fu) * 6)) (k2 := (4665 + (600 - fu) * 131)) (by omega) (by omega) ?_
          exact s_law_515 hC hX hbl hbA hb0 hr hlk fu hf (fun y0 y1 y2 n1 h1 z => ih (by omega) y0 y1 y2 n1 h1 z) _ _ _ _ _ hE
        · rw [if_neg hz149] at hE
          refine xi_iconst (v := (0 : Int32)) hC d_law_404 (by decide) ?_
          cases hE
      rw [if_neg hz137] at hE
      by_cases hz150 : x4 = (10 : Int32)
      · rw [if_pos hz150] at hE
        subst hz150
        refine xi_tswIn (tgt := 406) (off := 374) hC d_law_32 (by decide) (by decide) (by decide) (by decide) ?_
        refine xi_aload_n hC d_law_406 rfl 1 rfl ?_
        refine xi_aload_n hC d_law_407 rfl 0 rfl ?_
        refine xi_iload_n hC d_law_408 rfl 3 rfl ?_
        refine xi_iconst (v := (1 : Int32)) hC d_law_409 (by decide) ?_
        refine xi_iadd hC d_law_410 ?_
        obtain ⟨v151, hE152, hE⟩ := xb1_inv hE
        refine xi_sld hC hX hbl hbA hb0 hE152 d_law_411 ?_
        obtain ⟨hI155, hE⟩ := xchk_inv hE
        obtain ⟨v153, hE154, hE⟩ := xb1_inv hE
        refine xi_callV (as := [.int v151]) (st := []) (C := R_T) (T := T_T) (N := 6) hC (x_T_cross hE154) rfl (by decide) hI155 xt_364 xt_365 xt_366 xt_47 xt_363 ⟨by decide, by decide, (by decide +kernel : (parseMethodDescriptor y_T_cross.desc).map (fun d => d.parameters.length) = some 1)⟩ rfl rfl ⟨by decide, by decide⟩ ⟨by show _ ≤ 600000; omega, by show _ ≤ 7302249; omega⟩ (Nat.le_of_ble_eq_true rfl) rfl d_law_412 ?_
        refine xi_stk (st' := [.int v153]) rfl ?_
        refine xi_aload_n hC d_law_415 rfl 2 rfl ?_
        refine xi_aload_n hC d_law_416 rfl 0 rfl ?_
        refine xi_iload_n hC d_law_417 rfl 3 rfl ?_
        refine xi_iconst (v := (1 : Int32)) hC d_law_418 (by decide) ?_
        refine xi_iadd hC d_law_419 ?_
        obtain ⟨v156, hE157, hE⟩ := xb1_inv hE
        refine xi_sld hC hX hbl hbA hb0 hE157 d_law_420 ?_
        obtain ⟨hI161, hE⟩ := xchk_inv hE
        obtain ⟨v158, h159, hE160, hE⟩ := xb2_inv hE
        refine xi_callV (as := [.int v156]) (st := [.int v153]) (C := R_M) (T := T_M) (N := 19) hC (x_M_cross hE160) rfl (by decide) hI161 xt_368 xt_369 xt_370 xt_218 xt_367 ⟨by decide, by decide, (by decide +kernel : (parseMethodDescriptor y_M_cross.desc).map (fun d => d.parameters.length) = some 1)⟩ rfl rfl ⟨by decide, by decide⟩ ⟨by show _ ≤ 600000; omega, by show _ ≤ 7302249; omega⟩ (Nat.le_of_ble_eq_true rfl) rfl d_law_421 ?_
        refine xi_stk (st' := [.int v158, .int v153]) rfl ?_
        refine xi_icmp_eq (tgt := 515) hC d_law_424 (by decide) (fun hz162 => ?_) (fun hz162 => ?_)
        · rw [if_pos hz162] at hE
          refine xi_locs (lv' := [(0, .ref 0), (1, .ref r1), (2, .ref r2), (3, .int x3)]) [0, 1, 2, 3] rfl ?_
          refine xi_widen (k1 := (34 + (600 - fu) * 6)) (k2 := (4665 + (600 - fu) * 131)) (by omega) (by omega) ?_
          exact s_law_515 hC hX hbl hbA hb0 hr hlk fu hf (fun y0 y1 y2 n1 h1 z => ih (by omega) y0 y1 y2 n1 h1 z) _ _ _ _ _ hE
        · rw [if_neg hz162] at hE
          refine xi_iconst (v := (0 : Int32)) hC d_law_427 (by decide) ?_
          cases hE
      rw [if_neg hz150] at hE
      by_cases hz163 : x4 = (11 : Int32)
      · rw [if_pos hz163] at hE
        subst hz163
        refine xi_tswIn (tgt := 429) (off := 397) hC d_law_32 (by decide) (by decide) (by decide) (by decide) ?_
        refine xi_aload_n hC d_law_429 rfl 1 rfl ?_
        refine xi_aload_n hC d_law_430 rfl 0 rfl ?_
        refine xi_iload_n hC d_law_431 rfl 3 rfl ?_
        refine xi_iconst (v := (1 : Int32)) hC d_law_432 (by decide) ?_
        refine xi_iadd hC d_law_433 ?_
        obtain ⟨v164, hE165, hE⟩ := xb1_inv hE
        refine xi_sld hC hX hbl hbA hb0 hE165 d_law_434 ?_
        refine xi_aload_n hC d_law_435 rfl 0 rfl ?_
        refine xi_iload_n hC d_law_436 rfl 3 rfl ?_
        refine xi_iconst (v := (2 : Int32)) hC d_law_437 (by decide) ?_
        refine xi_iadd hC d_law_438 ?_
        obtain ⟨v166, hE167, hE⟩ := xb1_inv hE
        refine xi_sld hC hX hbl hbA hb0 hE167 d_law_439 ?_
        refine xi_i2l hC d_law_440 ?_
        refine xi_bipush (v := (32 : Int32)) hC d_law_441 (by decide) ?_
        refine xi_lshl hC d_law_443 ?_
        refine xi_aload_n hC d_law_444 rfl 0 rfl ?_
        refine xi_iload_n hC d_law_445 rfl 3 rfl ?_
        refine xi_iconst (v := (3 : Int32)) hC d_law_446 (by decide) ?_
        refine xi_iadd hC d_law_447 ?_
        obtain ⟨v168, hE169, hE⟩ := xb1_inv hE
        refine xi_sld hC hX hbl hbA hb0 hE169 d_law_448 ?_
        refine xi_i2l hC d_law_449 ?_
        refine xi_ldc2 (v := (4294967295 : Int64)) hC d_law_450 xt_371 ?_
        refine xi_land hC d_law_453 ?_
        refine xi_lor hC d_law_454 ?_
        obtain ⟨hI172, hE⟩ := xchk_inv hE
        obtain ⟨v170, hE171, hE⟩ := xb1_inv hE
        refine xi_callV (as := [.int v164, .long (((v166.toInt64) <<< ((32 : Int32).toInt64 &&& 63)) ||| ((v168.toInt64) &&& (4294967295 : Int64)))]) (st := []) (C := R_T) (T := T_T) (N := 6) hC (x_T_budget hE171) rfl (by decide) hI172 xt_373 xt_374 xt_375 xt_47 xt_372 ⟨by decide, by decide, (by decide +kernel : (parseMethodDescriptor y_T_budget.desc).map (fun d => d.parameters.length) = some 2)⟩ rfl rfl ⟨by decide, by decide⟩ ⟨by show _ ≤ 600000; omega, by show _ ≤ 7302249; omega⟩ (Nat.le_of_ble_eq_true rfl) rfl d_law_455 ?_
        refine xi_stk (st' := [.int v170]) rfl ?_
        refine xi_aload_n hC d_law_458 rfl 2 rfl ?_
        refine xi_aload_n hC d_law_459 rfl 0 rfl ?_
        refine xi_iload_n hC d_law_460 rfl 3 rfl ?_
        refine xi_iconst (v := (1 : Int32)) hC d_law_461 (by decide) ?_
        refine xi_iadd hC d_law_462 ?_
        obtain ⟨v173, hE174, hE⟩ := xb1_inv hE
        refine xi_sld hC hX hbl hbA hb0 hE174 d_law_463 ?_
        refine xi_aload_n hC d_law_464 rfl 0 rfl ?_
        refine xi_iload_n hC d_law_465 rfl 3 rfl ?_
        refine xi_iconst (v := (2 : Int32)) hC d_law_466 (by decide) ?_
        refine xi_iadd hC d_law_467 ?_
        obtain ⟨v175, hE176, hE⟩ := xb1_inv hE
        refine xi_sld hC hX hbl hbA hb0 hE176 d_law_468 ?_
        refine xi_i2l hC d_law_469 ?_
        refine xi_bipush (v := (32 : Int32)) hC d_law_470 (by decide) ?_
        refine xi_lshl hC d_law_472 ?_
        refine xi_aload_n hC d_law_473 rfl 0 rfl ?_
        refine xi_iload_n hC d_law_474 rfl 3 rfl ?_
        refine xi_iconst (v := (3 : Int32)) hC d_law_475 (by decide) ?_
        refine xi_iadd hC d_law_476 ?_
        obtain ⟨v177, hE178, hE⟩ := xb1_inv hE
        refine xi_sld hC hX hbl hbA hb0 hE178 d_law_477 ?_
        refine xi_i2l hC d_law_478 ?_
        refine xi_ldc2 (v := (4294967295 : Int64)) hC d_law_479 xt_371 ?_
        refine xi_land hC d_law_482 ?_
        refine xi_lor hC d_law_483 ?_
        obtain ⟨hI182, hE⟩ := xchk_inv hE
        obtain ⟨v179, h180, hE181, hE⟩ := xb2_inv hE
        refine xi_callV (as := [.int v173, .long (((v175.toInt64) <<< ((32 : Int32).toInt64 &&& 63)) ||| ((v177.toInt64) &&& (4294967295 : Int64)))]) (st := [.int v170]) (C := R_M) (T := T_M) (N := 19) hC (x_M_budget hE181) rfl (by decide) hI182 xt_377 xt_378 xt_379 xt_218 xt_376 ⟨by decide, by decide, (by decide +kernel : (parseMethodDescriptor y_M_budget.desc).map (fun d => d.parameters.length) = some 2)⟩ rfl rfl ⟨by decide, by decide⟩ ⟨by show _ ≤ 600000; omega, by show _ ≤ 7302249; omega⟩ (Nat.le_of_ble_eq_true rfl) rfl d_law_484 ?_
        refine xi_stk (st' := [.int v179, .int v170]) rfl ?_
        refine xi_icmp_eq (tgt := 515) hC d_law_487 (by decide) (fun hz183 => ?_) (fun hz183 => ?_)
        · rw [if_pos hz183] at hE
          refine xi_locs (lv' := [(0, .ref 0), (1, .ref r1), (2, .ref r2), (3, .int x3)]) [0, 1, 2, 3] rfl ?_
          refine xi_widen (k1 := (34 + (600 - fu) * 6)) (k2 := (4665 + (600 - fu) * 131)) (by omega) (by omega) ?_
          exact s_law_515 hC hX hbl hbA hb0 hr hlk fu hf (fun y0 y1 y2 n1 h1 z => ih (by omega) y0 y1 y2 n1 h1 z) _ _ _ _ _ hE
        · rw [if_neg hz183] at hE
          refine xi_iconst (v := (0 : Int32)) hC d_law_490 (by decide) ?_
          cases hE
      rw [if_neg hz163] at hE
      by_cases hz184 : x4 = (12 : Int32)
      · rw [if_pos hz184] at hE
        subst hz184
        refine xi_tswIn (tgt := 492) (off := 460) hC d_law_32 (by decide) (by decide) (by decide) (by decide) ?_
        refine xi_aload_n hC d_law_492 rfl 1 rfl ?_
        refine xi_aload_n hC d_law_493 rfl 0 rfl ?_
        refine xi_iload_n hC d_law_494 rfl 3 rfl ?_
        refine xi_iconst (v := (1 : Int32)) hC d_law_495 (by decide) ?_
        refine xi_iadd hC d_law_496 ?_
        obtain ⟨v185, hE186, hE⟩ := xb1_inv hE
        refine xi_sld hC hX hbl hbA hb0 hE186 d_law_497 ?_
        obtain ⟨hI189, hE⟩ := xchk_inv hE
        obtain ⟨v187, hE188, hE⟩ := xb1_inv hE
        refine xi_callV (as := [.int v185]) (st := []) (C := R_T) (T := T_T) (N := 6) hC (x_T_differ hE188) rfl (by decide) hI189 xt_381 xt_382 xt_383 xt_47 xt_380 ⟨by decide, by decide, (by decide +kernel : (parseMethodDescriptor y_T_differ.desc).map (fun d => d.parameters.length) = some 1)⟩ rfl rfl ⟨by decide, by decide⟩ ⟨by show _ ≤ 600000; omega, by show _ ≤ 7302249; omega⟩ (Nat.le_of_ble_eq_true rfl) rfl d_law_498 ?_
        refine xi_stk (st' := [.int v187]) rfl ?_
        refine xi_aload_n hC d_law_501 rfl 2 rfl ?_
        refine xi_aload_n hC d_law_502 rfl 0 rfl ?_
        refine xi_iload_n hC d_law_503 rfl 3 rfl ?_
        refine xi_iconst (v := (1 : Int32)) hC d_law_504 (by decide) ?_
        refine xi_iadd hC d_law_505 ?_
        obtain ⟨v190, hE191, hE⟩ := xb1_inv hE
        refine xi_sld hC hX hbl hbA hb0 hE191 d_law_506 ?_
        obtain ⟨hI195, hE⟩ := xchk_inv hE
        obtain ⟨v192, h193, hE194, hE⟩ := xb2_inv hE
        refine xi_callV (as := [.int v190]) (st := [.int v187]) (C := R_M) (T := T_M) (N := 19) hC (x_M_differ hE194) rfl (by decide) hI195 xt_385 xt_386 xt_387 xt_218 xt_384 ⟨by decide, by decide, (by decide +kernel : (parseMethodDescriptor y_M_differ.desc).map (fun d => d.parameters.length) = some 1)⟩ rfl rfl ⟨by decide, by decide⟩ ⟨by show _ ≤ 600000; omega, by show _ ≤ 7302249; omega⟩ (Nat.le_of_ble_eq_true rfl) rfl d_law_507 ?_
        refine xi_stk (st' := [.int v192, .int v187]) rfl ?_
        refine xi_icmp_eq (tgt := 515) hC d_law_510 (by decide) (fun hz196 => ?_) (fun hz196 => ?_)
        · rw [if_pos hz196] at hE
          refine xi_locs (lv' := [(0, .ref 0), (1, .ref r1), (2, .ref r2), (3, .int x3)]) [0, 1, 2, 3] rfl ?_
          refine xi_widen (k1 := (34 + (600 - fu) * 6)) (k2 := (4665 + (600 - fu) * 131)) (by omega) (by omega) ?_
          exact s_law_515 hC hX hbl hbA hb0 hr hlk fu hf (fun y0 y1 y2 n1 h1 z => ih (by omega) y0 y1 y2 n1 h1 z) _ _ _ _ _ hE
        · rw [if_neg hz196] at hE
          refine xi_iconst (v := (0 : Int32)) hC d_law_513 (by decide) ?_
          cases hE
      rw [if_neg hz184] at hE
      have hout : x4.toInt < 0 ∨ 12 < x4.toInt := by
        have thz5 := lv_neT (a := 0) hz5 (by decide)
        have thz27 := lv_neT (a := 1) hz27 (by decide)
        have thz35 := lv_neT (a := 2) hz35 (by decide)
        have thz53 := lv_neT (a := 3) hz53 (by decide)
        have thz64 := lv_neT (a := 4) hz64 (by decide)
        have thz77 := lv_neT (a := 5) hz77 (by decide)
        have thz94 := lv_neT (a := 6) hz94 (by decide)
        have thz107 := lv_neT (a := 7) hz107 (by decide)
        have thz120 := lv_neT (a := 8) hz120 (by decide)
        have thz137 := lv_neT (a := 9) hz137 (by decide)
        have thz150 := lv_neT (a := 10) hz150 (by decide)
        have thz163 := lv_neT (a := 11) hz163 (by decide)
        have thz184 := lv_neT (a := 12) hz184 (by decide)
        omega
      refine xi_tswOut (tgt := 515) hC d_law_32 hout (by decide) ?_
      refine xi_locs (lv' := [(0, .ref 0), (1, .ref r1), (2, .ref r2), (3, .int x3)]) [0, 1, 2, 3] rfl ?_
      refine xi_widen (k1 := (34 + (600 - fu) * 6)) (k2 := (4665 + (600 - fu) * 131)) (by omega) (by omega) ?_
      exact s_law_515 hC hX hbl hbA hb0 hr hlk fu hf (fun y0 y1 y2 n1 h1 z => ih (by omega) y0 y1 y2 n1 h1 z) _ _ _ _ _ hE
set_option maxRecDepth 100000 in
set_option maxHeartbeats 8000000 in
theorem s_law_0 {p : Program} {l : Launch} {e : Env} {s : State} {m : MethodId} {below : List Frame} {meth : Method} {c : Code} {D : va_G} {ad0 : Nat → Nat} {n0 b L : Nat} {xs : Nat → Int32} (hC : XC p s m #[Value.ref b] c code 4 R_L XTs XCL XNW XAL D (fun q => s.heap.size ≤ q)) (hX : va_X b L xs s s.heap) (hbl : b < s.heap.size) (hbA : ¬ (fun q => s.heap.size ≤ q) b) (hb0 : ad0 0 = b) (hr : meth.sig.returnType = ret) (hlk : meth.locks = false)    (n : Nat) (h : XH) (hE : D_law_0 L xs   n h = some ()) : XW p l e room_1 s m #[Value.ref b] below meth c 4 XCL D (fun q => s.heap.size ≤ q) ad0 n0 0 0 (lw_Z below #[Value.ref b] s) n h 0 [(0, .ref 0)] [] := by
  unfold D_law_0 at hE
  obtain ⟨h1, hE2, hE⟩ := xb1_inv hE
  cases hE2
  refine xi_new (C := R_T) (T := T_T) (N := 6) (ci := 0) (fs := [.null, .null, .null, .int 0, .null, .null]) hC ty_T rfl iws_T tok_T xt_388 xt_389 xt_47 dfl_T (fun _ => rfl) xl0_T (by decide) (by decide) d_law_0 ?_
  refine xi_dup hC d_law_3 rfl ?_
  obtain ⟨n3, h4, hE5, hE⟩ := xb2_inv hE
  refine xi_callI (as := []) (st := [.ref (n + 1)]) hC (x_T_init hE5) xt_391 xt_392 xt_47 xt_390 rfl ⟨by decide, by decide, (by decide +kernel : (parseMethodDescriptor y_T_init.desc).map (fun d => d.parameters.length) = some 0)⟩ rfl rfl ⟨by decide, by decide⟩ ⟨by decide, by decide⟩ (Nat.le_of_ble_eq_true rfl) rfl d_law_4 ?_
  refine xi_astore_n (lv' := [(1, .ref (n + 1)), (0, .ref 0)]) hC d_law_7 rfl (by decide) rfl ?_
  obtain ⟨h6, hE7, hE⟩ := xb1_inv hE
  cases hE7
  refine xi_new (C := R_M) (T := T_M) (N := 19) (ci := 4) (fs := [.int 0, .int 0, .null, .null, .null, .null, .null, .null, .int 0, .null, .null, .int 0, .int 0, .null, .null, .null, .null, .null, .null]) hC ty_M rfl iws_M tok_M xt_393 xt_394 xt_218 dfl_M (fun _ => rfl) xl0_M (by decide) (by decide) d_law_8 ?_
  refine xi_dup hC d_law_11 rfl ?_
  obtain ⟨n8, h9, hE10, hE⟩ := xb2_inv hE
  refine xi_callI (as := []) (st := [.ref (n3 + 1)]) hC (x_M_init hE10) xt_396 xt_397 xt_218 xt_395 rfl ⟨by decide, by decide, (by decide +kernel : (parseMethodDescriptor y_M_init.desc).map (fun d => d.parameters.length) = some 0)⟩ rfl rfl ⟨by decide, by decide⟩ ⟨by decide, by decide⟩ (Nat.le_of_ble_eq_true rfl) rfl d_law_12 ?_
  refine xi_astore_n (lv' := [(2, .ref (n3 + 1)), (1, .ref (n + 1)), (0, .ref 0)]) hC d_law_15 rfl (by decide) rfl ?_
  refine xi_iconst (v := (0 : Int32)) hC d_law_16 (by decide) ?_
  refine xi_istore_n (lv' := [(3, .int (0 : Int32)), (2, .ref (n3 + 1)), (1, .ref (n + 1)), (0, .ref 0)]) hC d_law_17 rfl (by decide) rfl ?_
  refine xi_locs (lv' := [(0, .ref 0), (1, .ref (n + 1)), (2, .ref (n3 + 1)), (3, .int (0 : Int32))]) [3, 2, 1, 0] rfl ?_
  refine xi_widen (k1 := (34 + (600 - 600) * 6)) (k2 := (4665 + (600 - 600) * 131)) (by decide) (by decide) ?_
  exact s_law_18 hC hX hbl hbA hb0 hr hlk 600 (Nat.le_refl _) _ _ _ _ _ hE

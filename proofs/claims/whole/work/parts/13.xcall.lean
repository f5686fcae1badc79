/-! calls and ends over the numbered heap -/
theorem xPre_blind {D : va_G} {cl : List vw_C} {NW : List Cond} {AL : List String} {n sz : Nat} {h : XH} {ad : Nat → Nat} {ca : Nat → ClassId} {av : List Value} (hg : xGood NW) : FrameBlind (va_Pc av (fun U => U.heap.size = sz ∧ xPre D cl NW AL n h ad ca U)) := by
  intro a U g mk q
  obtain ⟨q0, q1, qR, qK, qN, qA⟩ := q
  exact ⟨q0, q1, xR.moved (t := U.calling g mk a) qR (Vm.Alike.refl U.vm) (fun _ _ _ z => z), va_K.moved (u := U) (U := U.calling g mk a) (Vm.Alike.refl U.vm) qK, xNw_same (s := U) (U := U.calling g mk a) hg rfl qN, fun C hC => va_AO.moved (u := U) (U := U.calling g mk a) (Vm.Alike.refl U.vm) (qA C hC)⟩
section XS
variable {p : Program} {l : Launch} {e : Env} {R : Room} {s : State} {m : MethodId} {args : Array Value} {below : List Frame} {meth : Method} {c : Code} {Q : State → Prop}
variable {cc : ByteArray} {nL : Nat} {own : String} {Ts : List Cond} {cl : List vw_C} {NW : List Cond} {AL : List String} {D : va_G} {A : Nat → Prop} {ad0 : Nat → Nat} {n0 : Nat}
variable {n : Nat} {h : XH} {cells slots pc : Nat} {lv : List (Nat × Value)} {st : List Value}
theorem xPre_here (hC : XC p s m args c cc nL own Ts cl NW AL D A) {ad : Nat → Nat} {ca : Nat → ClassId} {H : Heap} (a3 : xR D cl A s n h ad ca H) {U : State} (hU : U.heap = H) (hW : s.WarmedH U.vm) : U.heap.size = H.size ∧ xPre D cl NW AL n h ad ca U := by
  refine ⟨by rw [hU], ?_, va_K.moved hW.alike hC.2.1, xNw_warm hC.2.2.2.2.2.1 hW hC.2.2.2.1, fun C h1 => va_AO.moved hW.alike (hC.2.2.2.2.1 C h1)⟩
  rw [hU]
  exact a3.moved hW.alike (fun _ _ _ _ => trivial)
theorem xi_run (hC : XC p s m args c cc nL own Ts cl NW AL D A) {mc ms n' : Nat} {h' : XH} {r : Option Value} {stk : List Value} (hsub : xl n stk → xl n st) (arr : (Nat → Nat) → Array Value)
    (hrun : ∀ (ad : Nat → Nat) (ca : Nat → ClassId) (H : Heap) (locs : List Loc) (ls : Array Slot), xR D cl A s n h ad ca H → va_S A s.heap H locs → xl n stk → lv_has ls nL (xm ad lv) → va_Run p l e R s m args below meth c H locs cells slots mc ms (F0 m pc ls (stk.map (xv ad))) (st.map (xv ad)) (xQc D cl n ad (xA n ad H.size) r n' h' (arr ad)) (xA n ad H.size))
    (kk : XW p l e R s m args below meth c nL cl D A ad0 n0 (cells + mc) (slots + ms) Q n' h' (pc + 3) lv (r.toList ++ st)) : XW p l e R s m args below meth c nL cl D A ad0 n0 cells slots Q n h pc lv stk := by
  intro ad ca H locs ls a1 a2 a3 a4 a5 a6 a7 T hT X
  obtain ⟨v, st₀, t, T', L, h0, X', hL, e1, e2, ⟨⟨ad', ca', hv, hag, hnn, hrl, hR'⟩, hz, hk⟩, stp⟩ := hrun ad ca H locs ls a3 a4 a6 a7 T hT X
  have hv' : v = r.map (xv ad') := Outcome.returned.inj hv
  subst hv'
  rw [h0] at hz hk
  have hAA : ∀ q, xA n ad H.size q → A q := by
    rintro q (⟨k, k1, k2, rfl⟩ | hq)
    · exact a3.2.1.2 (k - 1) _ (xw_at1 k1 k2)
    · exact hC.2.2.1 q (Nat.le_trans a4.1 hq)
  have hvm : s.vm.Alike t.vm := by rw [← e2]; exact X'.warmed.alike
  have hR2 : xR D cl A s n' h' ad' ca' T'.heap := by
    rw [e1]
    exact hR'.moved hvm.symm (fun k _ _ z => hAA _ z)
  have hS2 : va_S A s.heap T'.heap (locs ++ L) := ⟨Nat.le_trans a4.1 (by rw [e1]; exact hz), fun q h1 h2 => by
      rw [e1, hk q (Nat.lt_of_lt_of_le h1 a4.1) (fun z => h2 (hAA q z))]; exact a4.2.1 q h1 h2, fun q hq => by
      rcases List.mem_append.mp hq with h | h
      · exact a4.2.2 q h
      · exact hAA _ (hL q h)⟩
  have hst : xl n st := hsub a6
  have hxl : xl n' (r.toList ++ st) := by
    intro w hw
    rcases List.mem_append.mp hw with q | q
    · exact hrl w q
    · exact vok_mono (hst w q) hnn
  obtain ⟨t2, b1, b2⟩ := kk ad' ca' T'.heap (locs ++ L) ls (fun k hk' => (hag k (by omega)).trans (a1 k hk')) (by omega) hR2 hS2 (xlv_mono a5 hnn) hxl (by rw [xm_ext hag a5]; exact a7) T' rfl X'
  have e5 : (r.toList ++ st).map (xv ad') = (r.map (xv ad')).toList ++ st.map (xv ad) := by
    rw [List.map_append, xl_ext hag hst]
    cases r <;> rfl
  rw [e5] at b1
  exact ⟨t2, stp t2 b1, b2⟩
theorem xi_callV (hC : XC p s m args c cc nL own Ts cl NW AL D A) {y : MethodName} {bytes : ByteArray} {maxL mc ms index r0 ci N n' : Nat} {ret : Option FieldType} {rm : Room} {as stk : List Value} {C : String} {T : u_T} {h' : XH} {r : Option Value} (hM : XMet l y bytes maxL ret Ts cl NW AL D rm mc ms (.ref r0 :: as) n h r n' h')
    (hcl : cl[ci]? = some (C, T, N)) (hci : ¬ ci = 999) (his : xis h ci r0 = true) (hw1 : Cond.methodLink own index y ∈ Ts) (hw2 : Cond.instanceMethod y ∈ Ts) (hw3 : Cond.selects C y y ∈ Ts) (hw4 : Cond.initialized y.cls ∈ Ts) (hw5 : Cond.code y bytes maxL ret ∈ Ts) (hy : y.cls ≠ "java/lang/invoke/MethodHandle" ∧ y.cls ≠ "java/lang/invoke/VarHandle" ∧ (parseMethodDescriptor y.desc).map (fun d => d.parameters.length) = some as.length)
    (hrc : rm.cells = mc) (hrs : rm.slots = ms) (hR : rm.frames + 1 ≤ R.frames ∧ 8 + (maxL + 11) + rm.locals ≤ R.locals) (hf : cells + mc ≤ R.cells ∧ slots + ms ≤ R.slots) (hst : (st.map fun v => v.category).sum ≤ 8) (hstk : stk = as.reverse ++ .ref r0 :: st) (hd : decode cc pc = .ok (.invokevirtual index, 3))
    (kk : XW p l e R s m args below meth c nL cl D A ad0 n0 (cells + mc) (slots + ms) Q n' h' (pc + 3) lv (r.toList ++ st)) : XW p l e R s m args below meth c nL cl D A ad0 n0 cells slots Q n h pc lv stk := by
  subst hstk
  refine xi_run hC (fun q => xl_tl (xl_app q)) (fun ad => (Value.ref (ad r0) :: as.map (xv ad)).toArray) (fun ad ca H locs ls a3 a4 a6 a7 => ?_) kk
  obtain ⟨fs, e1⟩ := xis_inv his
  obtain ⟨g1, g2, g3⟩ := a3.cell e1 (xN_inr hci)
  have hav : xl n (.ref r0 :: as) := fun v hv => by
    rcases List.mem_cons.mp hv with q | q
    · rw [q]; exact a6 _ (List.mem_append_right _ List.mem_cons_self)
    · exact a6 _ (List.mem_append_left _ (List.mem_reverse.mpr q))
  exact va_runV (C := C) (b := ad r0) (As := as.map (xv ad)) (rest := st.map (xv ad)) (g := F0 m pc ls ((as.reverse ++ .ref r0 :: st).map (xv ad))) hC.1 (hM ad ca H.size hav) ⟨callB_of as.length hC.1.2.2.2.2 (xgood1 hC.2.2.2.2.2.2 hw5) rfl hrc hrs (hC.1.2.2.2.2 _ hw4) (hC.1.2.2.2.2 _ hw1) hy hR, hC.1.2.2.2.2 _ hw2, hC.1.2.2.2.2 _ hw3⟩ ⟨xPre_blind hC.2.2.2.2.2.1, va_recv hC.2.1 a3.1 hcl g3, fun U hU hW => ⟨rfl, xPre_here hC a3 hU hW⟩⟩ rfl (by simp) a7.1 (by show (as.reverse ++ Value.ref r0 :: st).map (xv ad) = _; rw [List.map_append, List.map_reverse, List.map_cons]; rfl) (lv_room (by rw [xcat]; exact hst)) hd hf
theorem xi_callVN (hC : XC p s m args c cc nL own Ts cl NW AL D A) {y : MethodName} {bytes : ByteArray} {maxL mc ms index r0 ci N n' : Nat} {ret : Option FieldType} {rm : Room} {as stk : List Value} {C host : String} {T : u_T} {h' : XH} {r : Option Value} (hM : XMet l y bytes maxL ret Ts cl NW AL D rm mc ms (.ref r0 :: as) n h r n' h')
    (hcl : cl[ci]? = some (C, T, N)) (hci : ¬ ci = 999) (his : xis h ci r0 = true) (hw1 : Cond.methodLinkNest own index y host ∈ NW) (hw2 : Cond.instanceMethod y ∈ Ts) (hw3 : Cond.selects C y y ∈ Ts) (hw4 : Cond.initialized y.cls ∈ Ts) (hw5 : Cond.code y bytes maxL ret ∈ Ts) (hy : y.cls ≠ "java/lang/invoke/MethodHandle" ∧ y.cls ≠ "java/lang/invoke/VarHandle" ∧ (parseMethodDescriptor y.desc).map (fun d => d.parameters.length) = some as.length)
    (hrc : rm.cells = mc) (hrs : rm.slots = ms) (hR : rm.frames + 1 ≤ R.frames ∧ 8 + (maxL + 11) + rm.locals ≤ R.locals) (hf : cells + mc ≤ R.cells ∧ slots + ms ≤ R.slots) (hst : (st.map fun v => v.category).sum ≤ 8) (hstk : stk = as.reverse ++ .ref r0 :: st) (hd : decode cc pc = .ok (.invokevirtual index, 3))
    (kk : XW p l e R s m args below meth c nL cl D A ad0 n0 (cells + mc) (slots + ms) Q n' h' (pc + 3) lv (r.toList ++ st)) : XW p l e R s m args below meth c nL cl D A ad0 n0 cells slots Q n h pc lv stk := by
  subst hstk
  refine xi_run hC (fun q => xl_tl (xl_app q)) (fun ad => (Value.ref (ad r0) :: as.map (xv ad)).toArray) (fun ad ca H locs ls a3 a4 a6 a7 => ?_) kk
  obtain ⟨fs, e1⟩ := xis_inv his
  obtain ⟨g1, g2, g3⟩ := a3.cell e1 (xN_inr hci)
  have hav : xl n (.ref r0 :: as) := fun v hv => by
    rcases List.mem_cons.mp hv with q | q
    · rw [q]; exact a6 _ (List.mem_append_right _ List.mem_cons_self)
    · exact a6 _ (List.mem_append_left _ (List.mem_reverse.mpr q))
  exact va_runVN (C := C) (b := ad r0) (As := as.map (xv ad)) (rest := st.map (xv ad)) (g := F0 m pc ls ((as.reverse ++ .ref r0 :: st).map (xv ad))) hC.1 (hM ad ca H.size hav) ⟨va_cnB as.length hC.1.2.2.2.2 (xgood1 hC.2.2.2.2.2.2 hw5) rfl hrc hrs (hC.2.2.2.1 _ hw1) (hC.1.2.2.2.2 _ hw4) hy hR, hC.1.2.2.2.2 _ hw2, hC.1.2.2.2.2 _ hw3⟩ ⟨xPre_blind hC.2.2.2.2.2.1, va_recv hC.2.1 a3.1 hcl g3, fun U hU hW => ⟨rfl, xPre_here hC a3 hU hW⟩⟩ rfl (by simp) a7.1 (by show (as.reverse ++ Value.ref r0 :: st).map (xv ad) = _; rw [List.map_append, List.map_reverse, List.map_cons]; rfl) (lv_room (by rw [xcat]; exact hst)) hd hf
theorem xi_callS (hC : XC p s m args c cc nL own Ts cl NW AL D A) {y : MethodName} {bytes : ByteArray} {maxL mc ms index n' : Nat} {ret : Option FieldType} {rm : Room} {as stk : List Value} {h' : XH} {r : Option Value} (hM : XMet l y bytes maxL ret Ts cl NW AL D rm mc ms as n h r n' h')
    (hw1 : Cond.methodLink own index y ∈ Ts) (hw2 : Cond.static y ∈ Ts) (hw4 : Cond.initialized y.cls ∈ Ts) (hw5 : Cond.code y bytes maxL ret ∈ Ts) (hy : y.cls ≠ "java/lang/invoke/MethodHandle" ∧ y.cls ≠ "java/lang/invoke/VarHandle" ∧ (parseMethodDescriptor y.desc).map (fun d => d.parameters.length) = some as.length)
    (hrc : rm.cells = mc) (hrs : rm.slots = ms) (hR : rm.frames + 1 ≤ R.frames ∧ 8 + (maxL + 11) + rm.locals ≤ R.locals) (hf : cells + mc ≤ R.cells ∧ slots + ms ≤ R.slots) (hst : (st.map fun v => v.category).sum ≤ 8) (hstk : stk = as.reverse ++ st) (hd : decode cc pc = .ok (.invokestatic index, 3))
    (kk : XW p l e R s m args below meth c nL cl D A ad0 n0 (cells + mc) (slots + ms) Q n' h' (pc + 3) lv (r.toList ++ st)) : XW p l e R s m args below meth c nL cl D A ad0 n0 cells slots Q n h pc lv stk := by
  subst hstk
  refine xi_run hC (fun q => xl_app q) (fun ad => (as.map (xv ad)).toArray) (fun ad ca H locs ls a3 a4 a6 a7 => ?_) kk
  have hav : xl n as := fun v hv => a6 _ (List.mem_append_left _ (List.mem_reverse.mpr hv))
  exact va_runS (As := as.map (xv ad)) (rest := st.map (xv ad)) (g := F0 m pc ls ((as.reverse ++ st).map (xv ad))) hC.1 (hM ad ca H.size hav) ⟨callB_of as.length hC.1.2.2.2.2 (xgood1 hC.2.2.2.2.2.2 hw5) rfl hrc hrs (hC.1.2.2.2.2 _ hw4) (hC.1.2.2.2.2 _ hw1) hy hR, hC.1.2.2.2.2 _ hw2⟩ ⟨xPre_blind hC.2.2.2.2.2.1, fun U hU hW => ⟨rfl, xPre_here hC a3 hU hW⟩⟩ rfl (by simp) a7.1 (by show (as.reverse ++ st).map (xv ad) = _; rw [List.map_append, List.map_reverse]) (lv_room (by rw [xcat]; exact hst)) hd hf
theorem xi_callSN (hC : XC p s m args c cc nL own Ts cl NW AL D A) {y : MethodName} {bytes : ByteArray} {maxL mc ms index n' : Nat} {ret : Option FieldType} {rm : Room} {as stk : List Value} {host : String} {h' : XH} {r : Option Value} (hM : XMet l y bytes maxL ret Ts cl NW AL D rm mc ms as n h r n' h')
    (hw1 : Cond.methodLinkNest own index y host ∈ NW) (hw2 : Cond.static y ∈ Ts) (hw4 : Cond.initialized y.cls ∈ Ts) (hw5 : Cond.code y bytes maxL ret ∈ Ts) (hy : y.cls ≠ "java/lang/invoke/MethodHandle" ∧ y.cls ≠ "java/lang/invoke/VarHandle" ∧ (parseMethodDescriptor y.desc).map (fun d => d.parameters.length) = some as.length)
    (hrc : rm.cells = mc) (hrs : rm.slots = ms) (hR : rm.frames + 1 ≤ R.frames ∧ 8 + (maxL + 11) + rm.locals ≤ R.locals) (hf : cells + mc ≤ R.cells ∧ slots + ms ≤ R.slots) (hst : (st.map fun v => v.category).sum ≤ 8) (hstk : stk = as.reverse ++ st) (hd : decode cc pc = .ok (.invokestatic index, 3))
    (kk : XW p l e R s m args below meth c nL cl D A ad0 n0 (cells + mc) (slots + ms) Q n' h' (pc + 3) lv (r.toList ++ st)) : XW p l e R s m args below meth c nL cl D A ad0 n0 cells slots Q n h pc lv stk := by
  subst hstk
  refine xi_run hC (fun q => xl_app q) (fun ad => (as.map (xv ad)).toArray) (fun ad ca H locs ls a3 a4 a6 a7 => ?_) kk
  have hav : xl n as := fun v hv => a6 _ (List.mem_append_left _ (List.mem_reverse.mpr hv))
  exact va_runSN (As := as.map (xv ad)) (rest := st.map (xv ad)) (g := F0 m pc ls ((as.reverse ++ st).map (xv ad))) hC.1 (hM ad ca H.size hav) ⟨va_cnB as.length hC.1.2.2.2.2 (xgood1 hC.2.2.2.2.2.2 hw5) rfl hrc hrs (hC.2.2.2.1 _ hw1) (hC.1.2.2.2.2 _ hw4) hy hR, hC.1.2.2.2.2 _ hw2, trivial⟩ ⟨xPre_blind hC.2.2.2.2.2.1, fun U hU hW => ⟨rfl, xPre_here hC a3 hU hW⟩⟩ rfl (by simp) a7.1 (by show (as.reverse ++ st).map (xv ad) = _; rw [List.map_append, List.map_reverse]) (lv_room (by rw [xcat]; exact hst)) hd hf
theorem xi_callI (hC : XC p s m args c cc nL own Ts cl NW AL D A) {y : MethodName} {bytes : ByteArray} {maxL mc ms index r0 n' : Nat} {rm : Room} {as stk : List Value} {h' : XH} (hM : XMet l y bytes maxL none Ts cl NW AL D rm mc ms (.ref r0 :: as) n h none n' h')
    (hw1 : Cond.methodLink own index y ∈ Ts) (hw2 : Cond.instanceMethod y ∈ Ts) (hw4 : Cond.initialized y.cls ∈ Ts) (hw5 : Cond.code y bytes maxL none ∈ Ts) (hin : y.name = "<init>") (hy : y.cls ≠ "java/lang/invoke/MethodHandle" ∧ y.cls ≠ "java/lang/invoke/VarHandle" ∧ (parseMethodDescriptor y.desc).map (fun d => d.parameters.length) = some as.length)
    (hrc : rm.cells = mc) (hrs : rm.slots = ms) (hR : rm.frames + 1 ≤ R.frames ∧ 8 + (maxL + 11) + rm.locals ≤ R.locals) (hf : cells + mc ≤ R.cells ∧ slots + ms ≤ R.slots) (hst : (st.map fun v => v.category).sum ≤ 8) (hstk : stk = as.reverse ++ .ref r0 :: st) (hd : decode cc pc = .ok (.invokespecial index, 3))
    (kk : XW p l e R s m args below meth c nL cl D A ad0 n0 (cells + mc) (slots + ms) Q n' h' (pc + 3) lv st) : XW p l e R s m args below meth c nL cl D A ad0 n0 cells slots Q n h pc lv stk := by
  subst hstk
  refine xi_run hC (r := none) (fun q => xl_tl (xl_app q)) (fun ad => (Value.ref (ad r0) :: as.map (xv ad)).toArray) (fun ad ca H locs ls a3 a4 a6 a7 => ?_) kk
  have hav : xl n (.ref r0 :: as) := fun v hv => by
    rcases List.mem_cons.mp hv with q | q
    · rw [q]; exact a6 _ (List.mem_append_right _ List.mem_cons_self)
    · exact a6 _ (List.mem_append_left _ (List.mem_reverse.mpr q))
  exact va_runI (b := ad r0) (As := as.map (xv ad)) (rest := st.map (xv ad)) (g := F0 m pc ls ((as.reverse ++ .ref r0 :: st).map (xv ad))) hC.1 (hM ad ca H.size hav) ⟨callB_of as.length hC.1.2.2.2.2 (xgood1 hC.2.2.2.2.2.2 hw5) rfl hrc hrs (hC.1.2.2.2.2 _ hw4) (hC.1.2.2.2.2 _ hw1) hy hR, hin, hC.1.2.2.2.2 _ hw2⟩ ⟨xPre_blind hC.2.2.2.2.2.1, fun U hU hW => ⟨rfl, xPre_here hC a3 hU hW⟩⟩ rfl (by simp) a7.1 (by show (as.reverse ++ Value.ref r0 :: st).map (xv ad) = _; rw [List.map_append, List.map_reverse, List.map_cons]; rfl) (lv_room (by rw [xcat]; exact hst)) hd hf
theorem xi_iret (hC : XC p s m args c cc nL own Ts cl NW AL D A) {v : Int32} (hr : meth.sig.returnType = some .int) (hlk : meth.locks = false) (hd : decode cc pc = .ok (.ireturn, 1)) : XW p l e R s m args below meth c nL cl D A ad0 n0 cells slots (MQ below (xQc D cl n0 ad0 A (some (.int v)) n h) args s cells slots A) n h pc lv [.int v] := by
  intro ad ca H locs ls a1 a2 a3 a4 a5 a6 a7
  exact W.iret (v := v) hC.1.1 hC.1.2.1 hr (fun t ht hW => ⟨⟨ad, ca, rfl, a1, a2, a6, by rw [ht]; exact a3.moved hW.alike (fun _ _ _ z => z)⟩, a4.F ht⟩) a4.2.2 hd hlk
theorem xi_zret (hC : XC p s m args c cc nL own Ts cl NW AL D A) {v : Int32} {ty : FieldType} (hr : meth.sig.returnType = some ty) (hn : narrow ty (.int v) = .int v) (hlk : meth.locks = false) (hd : decode cc pc = .ok (.ireturn, 1)) : XW p l e R s m args below meth c nL cl D A ad0 n0 cells slots (MQ below (xQc D cl n0 ad0 A (some (.int v)) n h) args s cells slots A) n h pc lv [.int v] := by
  intro ad ca H locs ls a1 a2 a3 a4 a5 a6 a7
  exact W.zret (v := v) hC.1.1 hC.1.2.1 hr hn (fun t ht hW => ⟨⟨ad, ca, rfl, a1, a2, a6, by rw [ht]; exact a3.moved hW.alike (fun _ _ _ z => z)⟩, a4.F ht⟩) a4.2.2 hd hlk
theorem xi_vret (hC : XC p s m args c cc nL own Ts cl NW AL D A) (hr : meth.sig.returnType = none) (hlk : meth.locks = false) (hd : decode cc pc = .ok (.return_, 1)) : XW p l e R s m args below meth c nL cl D A ad0 n0 cells slots (MQ below (xQc D cl n0 ad0 A none n h) args s cells slots A) n h pc lv [] := by
  intro ad ca H locs ls a1 a2 a3 a4 a5 a6 a7
  exact W.vret hC.1.1 hC.1.2.1 hr (fun t ht hW => ⟨⟨ad, ca, rfl, a1, a2, xl_nil, by rw [ht]; exact a3.moved hW.alike (fun _ _ _ z => z)⟩, a4.F ht⟩) a4.2.2 hd hlk
theorem xi_aret (hC : XC p s m args c cc nL own Ts cl NW AL D A) {q : Nat} {C : String} (hr : meth.sig.returnType = some (.object C)) (hlk : meth.locks = false) (hd : decode cc pc = .ok (.areturn, 1)) : XW p l e R s m args below meth c nL cl D A ad0 n0 cells slots (MQ below (xQc D cl n0 ad0 A (some (.ref q)) n h) args s cells slots A) n h pc lv [.ref q] := by
  intro ad ca H locs ls a1 a2 a3 a4 a5 a6 a7
  exact W.aret (v := .ref (ad q)) hC.1.1 hC.1.2.1 hr (Or.inl ⟨C, rfl⟩) (Or.inr ⟨_, rfl⟩) (fun t ht hW => ⟨⟨ad, ca, rfl, a1, a2, a6, by rw [ht]; exact a3.moved hW.alike (fun _ _ _ z => z)⟩, a4.F ht⟩) a4.2.2 hd hlk
end XS
theorem xm_args (ad : Nat → Nat) (vs : List Value) : ∀ i, xm ad (lv_args i vs) = lv_args i (vs.map (xv ad)) := by
  induction vs with
  | nil => intro i; rfl
  | cons v vs ih =>
    intro i
    have e1 := ih (if v.category = 2 then i + 2 else i + 1)
    simp only [List.map_cons, lv_args, xv_cat]
    rw [← e1]
    rfl
theorem xlv_args {n : Nat} (vs : List Value) : ∀ i, xl n vs → xlv n (lv_args i vs) := by
  induction vs with
  | nil => intro i _ q hq; cases hq
  | cons v vs ih =>
    intro i hv q hq
    rcases List.mem_cons.mp hq with z | z
    · rw [z]; exact xl_hd hv
    · exact ih _ (xl_tl hv) q z
theorem xsl_len (ad : Nat → Nat) (vs : List Value) : (lg_sl (vs.map (xv ad))).length = (lg_sl vs).length := by
  induction vs with
  | nil => rfl
  | cons v vs ih =>
    simp only [lg_sl, List.map_cons, List.flatMap_cons, List.length_append, xv_cat] at ih ⊢
    rw [ih]
    congr 1
    split <;> rfl
/-- a contract out of a walk -/
theorem XMet.mk {l : Launch} {y : MethodName} {cc : ByteArray} {maxL : Nat} {ret : Option FieldType} {Ts : List Cond} {cl : List vw_C} {NW : List Cond} {AL : List String} {D : va_G} {rm : Room} {mc ms : Nat} {av : List Value} {n : Nat} {h : XH} {r : Option Value} {n' : Nat} {h' : XH} (hy : plainName y.cls = true) (hg : xGood NW) (hgd : ∀ w ∈ Ts, goodWord w = true) (hlen : (lg_sl av).length ≤ maxL)
    (body : ∀ (p : Program) (e : Env) (s : State) (m : MethodId) (args : Array Value) (below : List Frame) (meth : Method) (c : Code) (A : Nat → Prop) (ad0 : Nat → Nat), XC p s m args c cc maxL y.cls Ts cl NW AL D A → meth.sig.returnType = ret → meth.locks = false → meth.name = y.name → XW p l e rm s m args below meth c maxL cl D A ad0 n 0 0 (MQ below (xQc D cl n ad0 A r n' h') args s mc ms A) n h 0 (lv_args 0 av) []) : XMet l y cc maxL ret Ts cl NW AL D rm mc ms av n h r n' h' := by
  intro ad ca sz hav
  refine Met.ofW (cc := cc) (maxL := maxL) (ret := ret) hy rfl ?_
  intro p e s m args below meth c s₁ B hml hv
  obtain ⟨rfl, hsz, hR, hK, hN, hAO⟩ := hv
  subst hsz
  have hts0 := atoms_spec (ws := Cond.code y cc maxL ret :: Ts) B.pre
  have hown : s.vm.findClass y.cls = some m.cls := findClass_of_methodNamed B.named
  have hXC : XC p s m (av.map (xv ad)).toArray c cc maxL y.cls Ts cl NW AL D (xA n ad s.heap.size) := ⟨⟨B.exec, B.bytes, hml, hown, fun w hw => hts0 w (List.mem_cons_of_mem _ hw)⟩, hK, fun q hq => Or.inr hq, hN, hAO, hg, hgd⟩
  have K := body p e s m _ below meth c _ ad hXC B.returns B.notSynchronized (name_of_methodNamed B.named B.method).1
  have hl := lv_entry (av.map (xv ad)) (n := maxL) (by rw [xsl_len]; exact hlen)
  rw [lg_entry_eq]
  exact K ad ca s.heap [] _ (fun _ _ => rfl) (Nat.le_refl n) (hR.moved (Vm.Alike.refl _) (fun k k1 k2 _ => Or.inl ⟨k, k1, k2, rfl⟩)) va_S.rf (xlv_args av 0 hav) xl_nil (by rw [xm_args]; exact hl)

/-! rows that the law alone needs: its script, its switch, its end -/
def xsc (L : Nat) (xs : Nat → Int32) (i : Int32) : Option Int32 := if xin i L then some (xs i.toNatClampNeg) else none
theorem xsc_inv {L : Nat} {xs : Nat → Int32} {i x : Int32} (h : xsc L xs i = some x) : xin i L ∧ x = xs i.toNatClampNeg := by
  unfold xsc at h
  split at h
  · rename_i hi
    exact ⟨hi, (Option.some.inj h).symm⟩
  · cases h
section XS
variable {p : Program} {l : Launch} {e : Env} {R : Room} {s : State} {m : MethodId} {args : Array Value} {below : List Frame} {meth : Method} {c : Code} {Q : State → Prop}
variable {cc : ByteArray} {nL : Nat} {own : String} {Ts : List Cond} {cl : List vw_C} {NW : List Cond} {AL : List String} {D : va_G} {A : Nat → Prop} {ad0 : Nat → Nat} {n0 : Nat}
variable {n : Nat} {h : XH} {cells slots pc : Nat} {lv : List (Nat × Value)} {st : List Value} {b L : Nat} {xs : Nat → Int32}
theorem xi_sld (hC : XC p s m args c cc nL own Ts cl NW AL D A) (hX : va_X b L xs s s.heap) (hbl : b < s.heap.size) (hbA : ¬ A b) (hb0 : ad0 0 = b) {i x : Int32} (hg : xsc L xs i = some x) (hd : decode cc pc = .ok (.iaload, 1))
    (kk : XW p l e R s m args below meth c nL cl D A ad0 n0 cells slots Q n h (pc + 1) lv (.int x :: st)) : XW p l e R s m args below meth c nL cl D A ad0 n0 cells slots Q n h pc lv (.int i :: .ref 0 :: st) := by
  intro ad ca H locs ls a1 a2 a3 a4 a5 a6 a7
  obtain ⟨hi, rfl⟩ := xsc_inv hg
  have e0 : ad 0 = b := (a1 0 (Nat.zero_le _)).trans hb0
  have K := kk ad ca H locs ls a1 a2 a3 a4 a5 (xl_cons trivial (xl_tl (xl_tl a6))) a7
  show W p l e R s m args below meth c H locs cells slots Q (F0 m pc ls (.int i :: .ref (ad 0) :: st.map (xv ad)))
  rw [e0]
  exact va_sld hC.1.1 hC.1.2.1 hX hbl hbA a4 (xin_vp hi) hd K
theorem xi_slen (hC : XC p s m args c cc nL own Ts cl NW AL D A) (hX : va_X b L xs s s.heap) (hbl : b < s.heap.size) (hbA : ¬ A b) (hb0 : ad0 0 = b) (hd : decode cc pc = .ok (.arraylength, 1))
    (kk : XW p l e R s m args below meth c nL cl D A ad0 n0 cells slots Q n h (pc + 1) lv (.int (Int32.ofNat L) :: st)) : XW p l e R s m args below meth c nL cl D A ad0 n0 cells slots Q n h pc lv (.ref 0 :: st) := by
  intro ad ca H locs ls a1 a2 a3 a4 a5 a6 a7
  have e0 : ad 0 = b := (a1 0 (Nat.zero_le _)).trans hb0
  have K := kk ad ca H locs ls a1 a2 a3 a4 a5 (xl_cons trivial (xl_tl a6)) a7
  show W p l e R s m args below meth c H locs cells slots Q (F0 m pc ls (.ref (ad 0) :: st.map (xv ad)))
  rw [e0]
  exact va_slen hC.1.1 hC.1.2.1 hX hbl hbA a4 hd K
theorem xi_tswIn (hC : XC p s m args c cc nL own Ts cl NW AL D A) {dflt lo hi : Int} {offs : Array Int} {len tgt : Nat} {x : Int32} {off : Int} (hd : decode cc pc = .ok (.tableswitch dflt lo hi offs, len)) (h1 : ¬ x.toInt < lo) (h2 : ¬ hi < x.toInt) (ho : offs[(x.toInt - lo).toNat]? = some off) (ht : (pc : Int) + off = (tgt : Int))
    (k : XW p l e R s m args below meth c nL cl D A ad0 n0 cells slots Q n h tgt lv st) : XW p l e R s m args below meth c nL cl D A ad0 n0 cells slots Q n h pc lv (.int x :: st) := fun ad ca H locs ls a1 a2 a3 a4 a5 a6 a7 => lv_tableIn hC.1.1 hC.1.2.1 hd h1 h2 ho ht (k ad ca H locs ls a1 a2 a3 a4 a5 (xl_tl a6) a7)
theorem xi_tswOut (hC : XC p s m args c cc nL own Ts cl NW AL D A) {dflt lo hi : Int} {offs : Array Int} {len tgt : Nat} {x : Int32} (hd : decode cc pc = .ok (.tableswitch dflt lo hi offs, len)) (h1 : x.toInt < lo ∨ hi < x.toInt) (ht : (pc : Int) + dflt = (tgt : Int))
    (k : XW p l e R s m args below meth c nL cl D A ad0 n0 cells slots Q n h tgt lv st) : XW p l e R s m args below meth c nL cl D A ad0 n0 cells slots Q n h pc lv (.int x :: st) := fun ad ca H locs ls a1 a2 a3 a4 a5 a6 a7 => lv_tableOut hC.1.1 hC.1.2.1 hd h1 ht (k ad ca H locs ls a1 a2 a3 a4 a5 (xl_tl a6) a7)
end XS
theorem xi_lawret {p : Program} {l : Launch} {e : Env} {s : State} {m : MethodId} {below : List Frame} {meth : Method} {c : Code} {D : va_G} {ad0 : Nat → Nat} {n0 n b cells slots pc : Nat} {h : XH} {lv : List (Nat × Value)} (hC : XC p s m #[Value.ref b] c code 4 R_L XTs XCL XNW XAL D (fun q => s.heap.size ≤ q)) (hr : meth.sig.returnType = ret) (hlk : meth.locks = false) (h1 : cells ≤ 600000) (h2 : slots ≤ 7302249) (hd : decode code pc = .ok (.ireturn, 1)) : XW p l e room_1 s m #[Value.ref b] below meth c 4 XCL D (fun q => s.heap.size ≤ q) ad0 n0 cells slots (lw_Z below #[Value.ref b] s) n h pc lv [.int 1] := by
  intro ad ca H locs ls a1 a2 a3 a4 a5 a6 a7
  refine va_forget (fun q hq => a4.2.2 q hq) ?_
  refine W.widen (k := 600000) (n := 7302249) h1 h2 ?_
  exact lw_ret hC.1.1 hC.1.2.1 hr hlk hd

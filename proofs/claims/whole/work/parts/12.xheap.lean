/-! fields and arrays of the numbered heap -/
def xg (h : XH) (ci k r : Nat) : Option Value := match h r with
  | .inr (c, fs) => if c = ci then fs[k]? else none
  | .inl _ => none
def xgI (h : XH) (ci k r : Nat) : Option Int32 := match xg h ci k r with
  | some (.int x) => some x
  | _ => none
def xgR (h : XH) (ci k r : Nat) : Option Nat := match xg h ci k r with
  | some (.ref q) => some q
  | _ => none
def xgQ (h : XH) (ci k r : Nat) : Option (Option Nat) := match xg h ci k r with
  | some (.ref q) => some (some q)
  | some .null => some none
  | _ => none
def xp (h : XH) (ci k r : Nat) (v : Value) : Option XH := match h r with
  | .inr (c, fs) => if c = ci ∧ k < fs.length then some (va_up h r (.inr (ci, fs.set k v))) else none
  | .inl _ => none
def xis (h : XH) (ci r : Nat) : Bool := match h r with
  | .inr (c, _) => c == ci
  | .inl _ => false
abbrev xin (i : Int32) (n : Nat) : Prop := ¬ i < 0 ∧ i.toNatClampNeg < n
def xaI (h : XH) (r : Nat) (i : Int32) : Option Int32 := match h r with
  | .inl (.int, (n, .inl f)) => if xin i n then some (f i.toNatClampNeg) else none
  | _ => none
def xaS (h : XH) (r : Nat) (i x : Int32) : Option XH := match h r with
  | .inl (.int, (n, .inl f)) => if xin i n then some (va_up h r (.inl (.int, (n, .inl (upd f i.toNatClampNeg x))))) else none
  | _ => none
def xaN (h : XH) (r : Nat) : Option Int32 := match h r with
  | .inl (_, (n, _)) => some (Int32.ofNat n)
  | .inr _ => none
def xaR (h : XH) (C : String) (r : Nat) (i : Int32) : Option (Option Nat) := match h r with
  | .inl (.object C', (n, .inr (.inr (.inr (.inr f))))) => if C' = C ∧ xin i n then some (f i.toNatClampNeg) else none
  | _ => none
def xaQ (h : XH) (C : String) (ci r : Nat) (i : Int32) (q : Nat) : Option XH := match h r with
  | .inl (.object C', (n, .inr (.inr (.inr (.inr f))))) => if C' = C ∧ xis h ci q = true ∧ xin i n then some (va_up h r (.inl (.object C, (n, .inr (.inr (.inr (.inr (va_up f i.toNatClampNeg (some q))))))))) else none
  | _ => none
theorem xg_inv {h : XH} {ci k r : Nat} {v : Value} (hg : xg h ci k r = some v) : ∃ fs, h r = .inr (ci, fs) ∧ fs[k]? = some v := by
  unfold xg at hg
  split at hg
  · rename_i c fs e
    split at hg
    · rename_i hc
      subst hc
      exact ⟨fs, e, hg⟩
    · cases hg
  · cases hg
theorem xgI_inv {h : XH} {ci k r : Nat} {x : Int32} (hg : xgI h ci k r = some x) : xg h ci k r = some (.int x) := by
  unfold xgI at hg
  split at hg
  · rename_i y e
    cases hg
    exact e
  · cases hg
theorem xgR_inv {h : XH} {ci k r q : Nat} (hg : xgR h ci k r = some q) : xg h ci k r = some (.ref q) := by
  unfold xgR at hg
  split at hg
  · rename_i y e
    cases hg
    exact e
  · cases hg
theorem xgQ_inv {h : XH} {ci k r : Nat} {o : Option Nat} (hg : xgQ h ci k r = some o) : xg h ci k r = some (va_rf o) := by
  unfold xgQ at hg
  split at hg
  · rename_i y e
    cases hg
    exact e
  · rename_i e
    cases hg
    exact e
  · cases hg
theorem xp_inv {h h' : XH} {ci k r : Nat} {v : Value} (hg : xp h ci k r v = some h') : ∃ fs, h r = .inr (ci, fs) ∧ k < fs.length ∧ h' = va_up h r (.inr (ci, fs.set k v)) := by
  unfold xp at hg
  split at hg
  · rename_i c fs e
    split at hg
    · rename_i hc
      obtain ⟨hc, hl⟩ := hc
      subst hc
      exact ⟨fs, e, hl, (Option.some.inj hg).symm⟩
    · cases hg
  · cases hg
theorem xis_inv {h : XH} {ci r : Nat} (hg : xis h ci r = true) : ∃ fs, h r = .inr (ci, fs) := by
  unfold xis at hg
  split at hg
  · rename_i c fs e
    exact ⟨fs, by rw [e, beq_iff_eq.mp hg]⟩
  · cases hg
theorem xaI_inv {h : XH} {r : Nat} {i x : Int32} (hg : xaI h r i = some x) : ∃ n f, h r = .inl (.int, (n, .inl f)) ∧ xin i n ∧ x = f i.toNatClampNeg := by
  unfold xaI at hg
  split at hg
  · rename_i n f e
    split at hg
    · rename_i hi
      exact ⟨n, f, e, hi, (Option.some.inj hg).symm⟩
    · cases hg
  · cases hg
theorem xaS_inv {h h' : XH} {r : Nat} {i x : Int32} (hg : xaS h r i x = some h') : ∃ n f, h r = .inl (.int, (n, .inl f)) ∧ xin i n ∧ h' = va_up h r (.inl (.int, (n, .inl (upd f i.toNatClampNeg x)))) := by
  unfold xaS at hg
  split at hg
  · rename_i n f e
    split at hg
    · rename_i hi
      exact ⟨n, f, e, hi, (Option.some.inj hg).symm⟩
    · cases hg
  · cases hg
theorem xaN_inv {h : XH} {r : Nat} {x : Int32} (hg : xaN h r = some x) : ∃ ty n f, h r = .inl (ty, (n, f)) ∧ x = Int32.ofNat n := by
  unfold xaN at hg
  split at hg
  · rename_i ty n f e
    exact ⟨ty, n, f, e, (Option.some.inj hg).symm⟩
  · cases hg
theorem xaR_inv {h : XH} {C : String} {r : Nat} {i : Int32} {o : Option Nat} (hg : xaR h C r i = some o) : ∃ n f, h r = .inl (.object C, (n, .inr (.inr (.inr (.inr f))))) ∧ xin i n ∧ o = f i.toNatClampNeg := by
  unfold xaR at hg
  split at hg
  · rename_i C' n f e
    split at hg
    · rename_i hi
      obtain ⟨hc, hi⟩ := hi
      subst hc
      exact ⟨n, f, e, hi, (Option.some.inj hg).symm⟩
    · cases hg
  · cases hg
theorem xaQ_inv {h h' : XH} {C : String} {ci r q : Nat} {i : Int32} (hg : xaQ h C ci r i q = some h') : ∃ n f fs, h r = .inl (.object C, (n, .inr (.inr (.inr (.inr f))))) ∧ h q = .inr (ci, fs) ∧ xin i n ∧ h' = va_up h r (.inl (.object C, (n, .inr (.inr (.inr (.inr (va_up f i.toNatClampNeg (some q)))))))) := by
  unfold xaQ at hg
  split at hg
  · rename_i C' n f e
    split at hg
    · rename_i hi
      obtain ⟨hc, hq, hi⟩ := hi
      subst hc
      obtain ⟨fs, e2⟩ := xis_inv hq
      exact ⟨n, f, fs, e, e2, hi, (Option.some.inj hg).symm⟩
    · cases hg
  · cases hg
theorem xin_vp {i : Int32} {n : Nat} (h : xin i n) : vp_in i n := fun q => q.elim h.1 (fun z => absurd h.2 (Nat.not_lt.mpr z))
theorem xN_inl (a : FieldType × vp_A) : (Sum.inl a : XE) ≠ xN := by
  intro z
  unfold xN at z
  cases z
theorem xN_inr {ci : Nat} {fs : List Value} (h : ¬ ci = 999) : (Sum.inr (ci, fs) : XE) ≠ xN := by
  intro z
  unfold xN at z
  injection z with z
  injection z with z1 z2
  exact h z1
theorem xK1 {D : va_G} {cl : List vw_C} {s : State} {cA : ClassId} {ty : FieldType} (hK : va_K D cl [] s) (h1 : ArrOfT s cA ty ∧ va_RA s cA ty) : va_K D cl [(cA, ty)] s := by
  refine ⟨hK.1, fun k q hq => ?_⟩
  match k, hq with
  | 0, hq => cases hq; exact h1
  | k + 1, hq => simp at hq
theorem xgood {Ts : List Cond} (hg : ∀ w ∈ Ts, goodWord w = true) {ws : List Cond} (h : ∀ w ∈ ws, w ∈ Ts) : GoodIn Ts ws := fun w hw => ⟨h w hw, good_of_word (hg w (h w hw))⟩
theorem xgood1 {Ts : List Cond} (hg : ∀ w ∈ Ts, goodWord w = true) {w0 : Cond} (h : w0 ∈ Ts) : GoodIn Ts (w0 :: Ts) := xgood hg fun w hw => by
  rcases List.mem_cons.mp hw with q | q
  · rw [q]; exact h
  · exact q
theorem xcat (ad : Nat → Nat) (st : List Value) : ((st.map (xv ad)).map fun v => v.category) = st.map fun v => v.category := by
  rw [List.map_map]
  exact List.map_congr_left fun v _ => xv_cat ad v
section XS
variable {p : Program} {l : Launch} {e : Env} {R : Room} {s : State} {m : MethodId} {args : Array Value} {below : List Frame} {meth : Method} {c : Code} {Q : State → Prop}
variable {cc : ByteArray} {nL : Nat} {own : String} {Ts : List Cond} {cl : List vw_C} {NW : List Cond} {AL : List String} {D : va_G} {A : Nat → Prop} {ad0 : Nat → Nat} {n0 : Nat}
variable {n : Nat} {h : XH} {cells slots pc : Nat} {lv : List (Nat × Value)} {st : List Value}
theorem xi_get (hC : XC p s m args c cc nL own Ts cl NW AL D A) {C : String} {T : u_T} {N ci index k r : Nat} {v : Value} (hcl : cl[ci]? = some (C, T, N)) (hin : ∀ w ∈ u_ws C T N, w ∈ Ts) (hk : k < N) (hlk : Cond.fieldLink own index (T k).1 (T k).2.1 (T k).2.2.1 ∈ Ts) (hci : ¬ ci = 999) (hg : xg h ci k r = some v) (hd : decode cc pc = .ok (.getfield index, 3))
    (kk : XW p l e R s m args below meth c nL cl D A ad0 n0 cells slots Q n h (pc + 3) lv (v :: st)) : XW p l e R s m args below meth c nL cl D A ad0 n0 cells slots Q n h pc lv (.ref r :: st) := by
  intro ad ca H locs ls a1 a2 a3 a4 a5 a6 a7
  obtain ⟨fs, e1, hv⟩ := xg_inv hg
  obtain ⟨g1, g2, g3⟩ := a3.cell e1 (xN_inr hci)
  have hok : vok n v := by
    have z := a3.2.2.1 r
    rw [e1] at z
    exact z v (List.mem_of_getElem? hv)
  exact va_get (v := xv ad v) (fs := fs.map (xv ad)) hC.1.1 hC.1.2.1 hC.1.2.2.2.2 hin hC.1.2.2.2.1 hC.2.1 a3.1 (r - 1) g3 hcl k hk (hC.1.2.2.2.2 _ hlk) (fun _ z => z) (by simp [hv]) hd (kk ad ca H locs ls a1 a2 a3 a4 a5 (xl_cons hok (xl_tl a6)) a7)
theorem xi_getN (hC : XC p s m args c cc nL own Ts cl NW AL D A) {C host : String} {T : u_T} {N ci index k r : Nat} {v : Value} (hcl : cl[ci]? = some (C, T, N)) (hin : ∀ w ∈ u_ws C T N, w ∈ Ts) (hk : k < N) (hlk : Cond.fieldLinkNest own index (T k).1 (T k).2.1 (T k).2.2.1 host ∈ NW) (hci : ¬ ci = 999) (hg : xg h ci k r = some v) (hd : decode cc pc = .ok (.getfield index, 3))
    (kk : XW p l e R s m args below meth c nL cl D A ad0 n0 cells slots Q n h (pc + 3) lv (v :: st)) : XW p l e R s m args below meth c nL cl D A ad0 n0 cells slots Q n h pc lv (.ref r :: st) := by
  intro ad ca H locs ls a1 a2 a3 a4 a5 a6 a7
  obtain ⟨fs, e1, hv⟩ := xg_inv hg
  obtain ⟨g1, g2, g3⟩ := a3.cell e1 (xN_inr hci)
  have hok : vok n v := by
    have z := a3.2.2.1 r
    rw [e1] at z
    exact z v (List.mem_of_getElem? hv)
  exact va_getN (v := xv ad v) (fs := fs.map (xv ad)) hC.1.1 hC.1.2.1 hC.1.2.2.2.2 hin hC.1.2.2.2.1 hC.2.1 a3.1 (r - 1) g3 hcl k hk (va_Nw.use rfl (hC.2.2.2.1 _ hlk)) (fun _ z => z) (by simp [hv]) hd (kk ad ca H locs ls a1 a2 a3 a4 a5 (xl_cons hok (xl_tl a6)) a7)
theorem xl_set {n k : Nat} {v : Value} {fs : List Value} (h1 : xl n fs) (h2 : vok n v) : xl n (fs.set k v) := by
  intro w hw
  rcases List.mem_or_eq_of_mem_set hw with q | q
  · exact h1 w q
  · rw [q]; exact h2
theorem xi_put (hC : XC p s m args c cc nL own Ts cl NW AL D A) {C : String} {T : u_T} {N ci index k r : Nat} {v : Value} {h' : XH} (ty0 : Nat → FieldType) (hcl : cl[ci]? = some (C, T, N)) (hin : ∀ w ∈ u_ws C T N, w ∈ Ts) (hty : ∀ k, k < N → parseFieldDescriptor (T k).2.2.1 = some (ty0 k)) (hnm : ∀ a, a < N → ∀ b, b < N → a ≠ b → (T a).2.1 ≠ (T b).2.1) (hk : k < N) (hlk : Cond.fieldLink own index (T k).1 (T k).2.1 (T k).2.2.1 ∈ Ts) (hci : ¬ ci = 999) (hfin : (T k).2.2.2 = false) (hn : ∀ ad, narrow (ty0 k) (xv ad v) = xv ad v) (hfit : ∀ ad, fits (ty0 k) (xv ad v) = true) (hg : xp h ci k r v = some h') (hd : decode cc pc = .ok (.putfield index, 3))
    (kk : XW p l e R s m args below meth c nL cl D A ad0 n0 cells slots Q n h' (pc + 3) lv st) : XW p l e R s m args below meth c nL cl D A ad0 n0 cells slots Q n h pc lv (v :: .ref r :: st) := by
  intro ad ca H locs ls a1 a2 a3 a4 a5 a6 a7
  obtain ⟨fs, e1, hl, rfl⟩ := xp_inv hg
  obtain ⟨g1, g2, g3⟩ := a3.cell e1 (xN_inr hci)
  have hok : xl n fs := by
    have z := a3.2.2.1 r
    rw [e1] at z
    exact z
  refine va_put (v := xv ad v) (fs := fs.map (xv ad)) hC.1.1 hC.1.2.1 hC.1.2.2.2.2 hin ty0 hty hnm hC.1.2.2.2.1 hC.2.1 a3.1 a3.2.1 a4 (r - 1) g3 hcl k hk (hC.1.2.2.2.2 _ hlk) (fun _ z => z) hfin (hty k hk) (hn ad) (hfit ad) (by simpa using hl) hd (fun H1 locs1 q1 q2 q3 => ?_)
  have e9 : (fs.map (xv ad)).set k (xv ad v) = (fs.set k v).map (xv ad) := by rw [List.map_set]
  rw [e9] at q1 q2
  exact kk ad ca H1 locs1 ls a1 a2 (a3.set g1 g2 (z := .inr (ci, fs.set k v)) q1 q2 (xl_set hok (xl_hd a6)) (fun ty a z => by cases z)) q3 a5 (xl_tl (xl_tl a6)) a7
theorem xi_putF (hC : XC p s m args c cc nL own Ts cl NW AL D A) {C : String} {T : u_T} {N ci index k r : Nat} {v : Value} {h' : XH} (ty0 : Nat → FieldType) (hcl : cl[ci]? = some (C, T, N)) (hin : ∀ w ∈ u_ws C T N, w ∈ Ts) (hty : ∀ k, k < N → parseFieldDescriptor (T k).2.2.1 = some (ty0 k)) (hnm : ∀ a, a < N → ∀ b, b < N → a ≠ b → (T a).2.1 ≠ (T b).2.1) (hk : k < N) (hlk : Cond.fieldLink own index (T k).1 (T k).2.1 (T k).2.2.1 ∈ Ts) (hci : ¬ ci = 999) (hfin : (T k).2.2.2 = true) (hin2 : meth.name = "<init>") (hdecl : (T k).1 = own) (hn : ∀ ad, narrow (ty0 k) (xv ad v) = xv ad v) (hfit : ∀ ad, fits (ty0 k) (xv ad v) = true) (hg : xp h ci k r v = some h') (hd : decode cc pc = .ok (.putfield index, 3))
    (kk : XW p l e R s m args below meth c nL cl D A ad0 n0 cells slots Q n h' (pc + 3) lv st) : XW p l e R s m args below meth c nL cl D A ad0 n0 cells slots Q n h pc lv (v :: .ref r :: st) := by
  intro ad ca H locs ls a1 a2 a3 a4 a5 a6 a7
  obtain ⟨fs, e1, hl, rfl⟩ := xp_inv hg
  obtain ⟨g1, g2, g3⟩ := a3.cell e1 (xN_inr hci)
  have hok : xl n fs := by
    have z := a3.2.2.1 r
    rw [e1] at z
    exact z
  refine va_putF (v := xv ad v) (fs := fs.map (xv ad)) hC.1.1 hC.1.2.1 hC.1.2.2.2.2 hin ty0 hty hnm hC.1.2.2.2.1 hC.2.1 a3.1 a3.2.1 a4 (r - 1) g3 hcl k hk (hC.1.2.2.2.2 _ hlk) (fun _ z => z) hfin hin2 hdecl (hty k hk) (hn ad) (hfit ad) (by simpa using hl) hd (fun H1 locs1 q1 q2 q3 => ?_)
  have e9 : (fs.map (xv ad)).set k (xv ad v) = (fs.set k v).map (xv ad) := by rw [List.map_set]
  rw [e9] at q1 q2
  exact kk ad ca H1 locs1 ls a1 a2 (a3.set g1 g2 (z := .inr (ci, fs.set k v)) q1 q2 (xl_set hok (xl_hd a6)) (fun ty a z => by cases z)) q3 a5 (xl_tl (xl_tl a6)) a7
theorem xi_iald (hC : XC p s m args c cc nL own Ts cl NW AL D A) {r : Nat} {i x : Int32} (hg : xaI h r i = some x) (hd : decode cc pc = .ok (.iaload, 1))
    (kk : XW p l e R s m args below meth c nL cl D A ad0 n0 cells slots Q n h (pc + 1) lv (.int x :: st)) : XW p l e R s m args below meth c nL cl D A ad0 n0 cells slots Q n h pc lv (.int i :: .ref r :: st) := by
  intro ad ca H locs ls a1 a2 a3 a4 a5 a6 a7
  obtain ⟨N, f, e1, hi, rfl⟩ := xaI_inv hg
  obtain ⟨g1, g2, g3⟩ := a3.cell e1 (xN_inl _)
  exact va_iald hC.1.1 hC.1.2.1 (xK1 hC.2.1 (a3.2.2.2.1 r _ _ e1)) a3.1 (r - 1) 0 g3 rfl (xin_vp hi) hd (kk ad ca H locs ls a1 a2 a3 a4 a5 (xl_cons trivial (xl_tl (xl_tl a6))) a7)
theorem xi_iast (hC : XC p s m args c cc nL own Ts cl NW AL D A) {r : Nat} {i x : Int32} {h' : XH} (hg : xaS h r i x = some h') (hd : decode cc pc = .ok (.iastore, 1))
    (kk : XW p l e R s m args below meth c nL cl D A ad0 n0 cells slots Q n h' (pc + 1) lv st) : XW p l e R s m args below meth c nL cl D A ad0 n0 cells slots Q n h pc lv (.int x :: .int i :: .ref r :: st) := by
  intro ad ca H locs ls a1 a2 a3 a4 a5 a6 a7
  obtain ⟨N, f, e1, hi, rfl⟩ := xaS_inv hg
  obtain ⟨g1, g2, g3⟩ := a3.cell e1 (xN_inl _)
  exact va_iast hC.1.1 hC.1.2.1 (xK1 hC.2.1 (a3.2.2.2.1 r _ _ e1)) a3.1 a3.2.1 a4 (r - 1) 0 g3 rfl (xin_vp hi) hd (fun H1 locs1 q1 q2 q3 => kk ad ca H1 locs1 ls a1 a2 (a3.set g1 g2 (z := .inl (.int, (N, .inl (upd f i.toNatClampNeg x)))) q1 q2 trivial (fun ty a z => by cases z; exact ⟨_, e1⟩)) q3 a5 (xl_tl (xl_tl (xl_tl a6))) a7)
theorem xa_fst (ad : Nat → Nat) (a : vp_A) : (xa ad a).1 = a.1 := by
  rcases a with ⟨m, f | f | f | f | f⟩ <;> rfl
theorem xi_alen (hC : XC p s m args c cc nL own Ts cl NW AL D A) {r : Nat} {x : Int32} (hg : xaN h r = some x) (hd : decode cc pc = .ok (.arraylength, 1))
    (kk : XW p l e R s m args below meth c nL cl D A ad0 n0 cells slots Q n h (pc + 1) lv (.int x :: st)) : XW p l e R s m args below meth c nL cl D A ad0 n0 cells slots Q n h pc lv (.ref r :: st) := by
  intro ad ca H locs ls a1 a2 a3 a4 a5 a6 a7
  obtain ⟨ty, N, f, e1, rfl⟩ := xaN_inv hg
  obtain ⟨g1, g2, g3⟩ := a3.cell e1 (xN_inl _)
  exact va_alen (x := xa ad (N, f)) hC.1.1 hC.1.2.1 (xK1 hC.2.1 (a3.2.2.2.1 r _ _ e1)) a3.1 (r - 1) 0 g3 rfl (by rw [xa_fst]) hd (kk ad ca H locs ls a1 a2 a3 a4 a5 (xl_cons trivial (xl_tl a6)) a7)
theorem xv_rf (ad : Nat → Nat) (o : Option Nat) : xv ad (va_rf o) = va_rf (o.map ad) := by cases o <;> rfl
theorem xi_aald (hC : XC p s m args c cc nL own Ts cl NW AL D A) {C : String} {r : Nat} {i : Int32} {o : Option Nat} (hg : xaR h C r i = some o) (hd : decode cc pc = .ok (.aaload, 1))
    (kk : XW p l e R s m args below meth c nL cl D A ad0 n0 cells slots Q n h (pc + 1) lv (va_rf o :: st)) : XW p l e R s m args below meth c nL cl D A ad0 n0 cells slots Q n h pc lv (.int i :: .ref r :: st) := by
  intro ad ca H locs ls a1 a2 a3 a4 a5 a6 a7
  obtain ⟨N, f, e1, hi, rfl⟩ := xaR_inv hg
  obtain ⟨g1, g2, g3⟩ := a3.cell e1 (xN_inl _)
  have hok : vok n (va_rf (f i.toNatClampNeg)) := by
    have z := a3.2.2.1 r
    rw [e1] at z
    cases hf : f i.toNatClampNeg with
    | none => trivial
    | some q => exact z _ q hf
  have K := kk ad ca H locs ls a1 a2 a3 a4 a5 (xl_cons hok (xl_tl (xl_tl a6))) a7
  rw [List.map_cons, xv_rf] at K
  exact va_aldq (f := fun j => (f j).map ad) hC.1.1 hC.1.2.1 (xK1 hC.2.1 (a3.2.2.2.1 r _ _ e1)) a3.1 (r - 1) 0 g3 rfl (xin_vp hi) hd K
theorem xi_aast (hC : XC p s m args c cc nL own Ts cl NW AL D A) {C : String} {T : u_T} {N0 ci r q : Nat} {i : Int32} {h' : XH} (hcl : cl[ci]? = some (C, T, N0)) (hci : ¬ ci = 999) (hg : xaQ h C ci r i q = some h') (hd : decode cc pc = .ok (.aastore, 1))
    (kk : XW p l e R s m args below meth c nL cl D A ad0 n0 cells slots Q n h' (pc + 1) lv st) : XW p l e R s m args below meth c nL cl D A ad0 n0 cells slots Q n h pc lv (.ref q :: .int i :: .ref r :: st) := by
  intro ad ca H locs ls a1 a2 a3 a4 a5 a6 a7
  obtain ⟨N, f, fs, e1, e2, hi, rfl⟩ := xaQ_inv hg
  obtain ⟨g1, g2, g3⟩ := a3.cell e1 (xN_inl _)
  obtain ⟨k1, k2, k3⟩ := a3.cell e2 (xN_inr hci)
  have hf0 : ∀ j r, f j = some r → r ≤ n := by
    have z := a3.2.2.1 r
    rw [e1] at z
    exact z
  refine va_astq (f := fun j => (f j).map ad) (r := (C, T, N0)) hC.1.1 hC.1.2.1 (xK1 hC.2.1 (a3.2.2.2.1 r _ _ e1)) a3.1 a3.2.1 a4 (r - 1) 0 (q - 1) ci g3 rfl k3 hcl (xin_vp hi) hd (fun H1 locs1 q1 q2 q3 => ?_)
  have e9 : va_up (fun j => (f j).map ad) i.toNatClampNeg (some (ad q)) = fun j => (va_up f i.toNatClampNeg (some q) j).map ad := by
    funext j
    by_cases hj : j = i.toNatClampNeg
    · subst hj; rw [va_up_self, va_up_self]; rfl
    · rw [va_up_ne _ _ hj, va_up_ne _ _ hj]
  rw [e9] at q1 q2
  refine kk ad ca H1 locs1 ls a1 a2 (a3.set g1 g2 (z := .inl (.object C, (N, .inr (.inr (.inr (.inr (va_up f i.toNatClampNeg (some q)))))))) q1 q2 (fun j r' hr => ?_) (fun ty a z => by cases z; exact ⟨_, e1⟩)) q3 a5 (xl_tl (xl_tl (xl_tl a6))) a7
  by_cases hj : j = i.toNatClampNeg
  · subst hj
    rw [va_up_self] at hr
    cases hr
    exact k2
  · rw [va_up_ne _ _ hj] at hr
    exact hf0 j r' hr
theorem xi_fresh {z : XE} {z' : va_E} {cA : ClassId} {c1 c2 q dp : Nat} {ad : Nat → Nat} {ca : Nat → ClassId} {H H1 : Heap} {locs : List Loc} {ls : Array Slot}
    (kk : XW p l e R s m args below meth c nL cl D A ad0 n0 (cells + c1) (slots + c2) Q (n + 1) (va_up h (n + 1) z) (pc + dp) lv (.ref (n + 1) :: st))
    (a1 : ∀ k, k ≤ n0 → ad k = ad0 k) (a2 : n0 ≤ n) (a3 : xR D cl A s n h ad ca H) (a5 : xlv n lv) (a6 : xl n st) (a7 : lv_has ls nL (xm ad lv)) (e0 : xe (va_up ad (n + 1) q) cA z = z') (hP : va_P D cl (xw ad ca n h ++ [(q, z')]) H1) (hD : va_D A (xw ad ca n h ++ [(q, z')])) (hz : xf (n + 1) z) (ht : ∀ (ty : FieldType) (a : vp_A), z = .inl (ty, a) → ArrOfT s cA ty ∧ va_RA s cA ty) (hS : va_S A s.heap H1 locs) :
    W p l e R s m args below meth c H1 locs (cells + c1) (slots + c2) Q (F0 m (pc + dp) ls (.ref q :: st.map (xv ad))) := by
  have hag : ∀ k, k ≤ n → va_up ad (n + 1) q k = ad k := fun k hk => va_up_ne _ _ (by omega)
  have K := kk (va_up ad (n + 1) q) (va_up ca (n + 1) cA) H1 locs ls (fun k hk => (hag k (by omega)).trans (a1 k hk)) (by omega) (a3.push e0 hP hD hz ht) hS (xlv_mono a5 (by omega)) (xl_cons (show n + 1 ≤ n + 1 from Nat.le_refl _) (xl_mono a6 (by omega))) (by rw [xm_ext hag a5]; exact a7)
  have e3 : xv (va_up ad (n + 1) q) (.ref (n + 1)) = .ref q := congrArg Value.ref (va_up_self _ _ _)
  rw [List.map_cons, xl_ext hag a6, e3] at K
  exact K
theorem xi_new (hC : XC p s m args c cc nL own Ts cl NW AL D A) {C : String} {T : u_T} {N ci index : Nat} {fs : List Value} (ty : Nat → FieldType) (hcl : cl[ci]? = some (C, T, N)) (hin : ∀ w ∈ u_ws C T N, w ∈ Ts) (hty : ∀ k, k < N → parseFieldDescriptor (T k).2.2.1 = some (ty k)) (hlk : Cond.classLink own index C ∈ Ts) (hinst : Cond.instantiable C N ∈ Ts) (hini : Cond.initialized C ∈ Ts) (hfs : ∀ j, j < N → defaultValue (ty j) = vp_V fs j) (hnr : ∀ ad, fs.map (xv ad) = fs) (hx0 : xl 0 fs) (hc1 : cells + 1 ≤ R.cells) (hc2 : slots + N ≤ R.slots) (hd : decode cc pc = .ok (.new index, 3))
    (kk : XW p l e R s m args below meth c nL cl D A ad0 n0 (cells + 1) (slots + N) Q (n + 1) (va_up h (n + 1) (.inr (ci, fs))) (pc + 3) lv (.ref (n + 1) :: st)) : XW p l e R s m args below meth c nL cl D A ad0 n0 cells slots Q n h pc lv st := by
  intro ad ca H locs ls a1 a2 a3 a4 a5 a6 a7
  refine va_new (fs := fs) hC.1.1 hC.1.2.1 hC.1.2.2.2.2 hin ty hty hC.1.2.2.2.1 (hC.1.2.2.2.2 _ hlk) (hC.1.2.2.2.2 _ hinst) (hC.1.2.2.2.2 _ hini) hC.2.1 a3.1 a3.2.1 a4 hC.2.2.1 hcl hfs hc1 hc2 hd (fun q H1 q1 q2 q3 => ?_)
  exact xi_fresh (cA := 0) kk a1 a2 a3 a5 a6 a7 (by simp only [xe, hnr]) q1 q2 (xl_mono hx0 (Nat.zero_le _)) (fun ty a z => by cases z) q3
theorem xi_newI (hC : XC p s m args c cc nL own Ts cl NW AL D A) {atype : ArrayType} {x : Int32} {N : Nat} (hat : newarray.typeOf atype = .int) (harr : Cond.arrayClass (newarray.typeOf atype) ∈ Ts) (hn : ¬ x < 0) (hN : x.toNatClampNeg = N) (hbt : N * componentBytes .int ≤ 536870912) (hc1 : cells + 1 ≤ R.cells) (hc2 : slots + N ≤ R.slots) (hd : decode cc pc = .ok (.newarray atype, 2))
    (kk : XW p l e R s m args below meth c nL cl D A ad0 n0 (cells + 1) (slots + N) Q (n + 1) (va_up h (n + 1) (.inl (.int, (N, .inl (fun _ => 0))))) (pc + 2) lv (.ref (n + 1) :: st)) : XW p l e R s m args below meth c nL cl D A ad0 n0 cells slots Q n h pc lv (.int x :: st) := by
  intro ad ca H locs ls a1 a2 a3 a4 a5 a6 a7
  refine va_newa (a0 := (N, .inl (fun _ => 0))) hC.1.1 hC.1.2.1 (hC.1.2.2.2.2 _ harr) hat hC.2.1 a3.1 a3.2.1 a4 hC.2.2.1 (fun cA => rfl) hn hN hbt hc1 hc2 hd (fun q cA H1 q0 q1 q2 q3 => ?_)
  exact xi_fresh (cA := cA) kk a1 a2 a3 a5 (xl_tl a6) a7 rfl q1 q2 trivial (fun ty a z => by cases z; exact q0.2 0 _ rfl) q3
theorem xi_newQ (hC : XC p s m args c cc nL own Ts cl NW AL D A) {C : String} {index : Nat} {x : Int32} {N : Nat} (hlk : Cond.classLink own index C ∈ Ts) (hao : C ∈ AL) (hn : ¬ x < 0) (hN : x.toNatClampNeg = N) (hbt : N * 4 ≤ 536870912) (hc1 : cells + 1 ≤ R.cells) (hc2 : slots + N ≤ R.slots) (hd : decode cc pc = .ok (.anewarray index, 3))
    (kk : XW p l e R s m args below meth c nL cl D A ad0 n0 (cells + 1) (slots + N) Q (n + 1) (va_up h (n + 1) (.inl (.object C, (N, .inr (.inr (.inr (.inr (fun _ => none)))))))) (pc + 3) lv (.ref (n + 1) :: st)) : XW p l e R s m args below meth c nL cl D A ad0 n0 cells slots Q n h pc lv (.int x :: st) := by
  intro ad ca H locs ls a1 a2 a3 a4 a5 a6 a7
  refine va_newq hC.1.1 hC.1.2.1 hC.1.2.2.2.1 (hC.1.2.2.2.2 _ hlk) (hC.2.2.2.2.1 _ hao) hC.2.1 a3.1 a3.2.1 a4 hC.2.2.1 hn hN hbt hc1 hc2 hd (fun q cA H1 q0 q1 q2 q3 => ?_)
  exact xi_fresh (cA := cA) kk a1 a2 a3 a5 (xl_tl a6) a7 rfl q1 q2 (fun j r hr => by cases hr) (fun ty a z => by cases z; exact q0.2 0 _ rfl) q3
theorem xi_objInit (hC : XC p s m args c cc nL own Ts cl NW AL D A) {idx r : Nat} (h1 : Cond.methodLink own idx Lib.objectInit ∈ Ts) (h2 : Cond.instanceMethod Lib.objectInit ∈ Ts) (h3 : Cond.code Lib.objectInit ⟨#[0xb1]⟩ 1 none ∈ Ts) (hd : decode cc pc = .ok (.invokespecial idx, 3)) (hf : 1 ≤ R.frames) (hl : 20 ≤ R.locals) (hst : (st.map fun v => v.category).sum ≤ 8)
    (kk : XW p l e R s m args below meth c nL cl D A ad0 n0 cells slots Q n h (pc + 3) lv st) : XW p l e R s m args below meth c nL cl D A ad0 n0 cells slots Q n h pc lv (.ref r :: st) := by
  intro ad ca H locs ls a1 a2 a3 a4 a5 a6 a7
  have hroom : 2 * (F0 m pc ls (.ref (ad r) :: st.map (xv ad))).monitorRoom + ((st.map (xv ad)).map fun v => v.category).sum ≤ 8 := lv_room (by rw [xcat]; exact hst)
  exact W.objInit hC.1.1 hC.1.2.1 hC.1.2.2.2.1 (hC.1.2.2.2.2 _ h1) (hC.1.2.2.2.2 _ h2) (hC.1.2.2.2.2 _ h3) (g := F0 m pc ls (.ref (ad r) :: st.map (xv ad))) (rest := st.map (xv ad)) rfl (by rw [hC.1.2.2.1]; exact a7.1) rfl hd hf (by omega) (kk ad ca H locs ls a1 a2 a3 a4 a5 (xl_tl a6) a7)
end XS

/-! A HEAP BY NUMBERS: cells are numbered from 1 on in the order of their making; 'ad' says where a numbered cell lies, 'ca' which array class it has. -/
abbrev XE : Type := (FieldType × vp_A) ⊕ (Nat × List Value)
abbrev XH : Type := Nat → XE
def xN : XE := .inr (999, [])
def xv (ad : Nat → Nat) (v : Value) : Value := match v with
  | .ref k => .ref (ad k)
  | .int x => .int x
  | .long x => .long x
  | .float x => .float x
  | .double x => .double x
  | .null => .null
  | .retAddr x => .retAddr x
theorem xv_cat (ad : Nat → Nat) (v : Value) : (xv ad v).category = v.category := by cases v <;> rfl
def xa (ad : Nat → Nat) (a : vp_A) : vp_A := match a with
  | (n, .inl f) => (n, .inl f)
  | (n, .inr (.inl f)) => (n, .inr (.inl f))
  | (n, .inr (.inr (.inl f))) => (n, .inr (.inr (.inl f)))
  | (n, .inr (.inr (.inr (.inl f)))) => (n, .inr (.inr (.inr (.inl f))))
  | (n, .inr (.inr (.inr (.inr f)))) => (n, .inr (.inr (.inr (.inr (fun j => (f j).map ad)))))
def xe (ad : Nat → Nat) (cA : ClassId) (z : XE) : va_E := match z with
  | .inl (_, a) => .inl (cA, xa ad a)
  | .inr (ci, fs) => .inr (ci, fs.map (xv ad))
def xw (ad : Nat → Nat) (ca : Nat → ClassId) (n : Nat) (h : XH) : va_W := (List.range n).map (fun k => (ad (k + 1), xe ad (ca (k + 1)) (h (k + 1))))
theorem xw_len (ad : Nat → Nat) (ca : Nat → ClassId) (n : Nat) (h : XH) : (xw ad ca n h).length = n := by simp [xw]
theorem xw_at {ad : Nat → Nat} {ca : Nat → ClassId} {n : Nat} {h : XH} {j : Nat} (hj : j < n) : (xw ad ca n h)[j]? = some (ad (j + 1), xe ad (ca (j + 1)) (h (j + 1))) := by
  simp [xw, List.getElem?_map, List.getElem?_range hj]
theorem xw_at1 {ad : Nat → Nat} {ca : Nat → ClassId} {n : Nat} {h : XH} {k : Nat} (h1 : 1 ≤ k) (h2 : k ≤ n) : (xw ad ca n h)[k - 1]? = some (ad k, xe ad (ca k) (h k)) := by
  obtain ⟨j, rfl⟩ : ∃ j, k = j + 1 := ⟨k - 1, by omega⟩
  exact xw_at (by omega)
theorem xw_no {ad : Nat → Nat} {ca : Nat → ClassId} {n : Nat} {h : XH} {j : Nat} (hj : n ≤ j) : (xw ad ca n h)[j]? = none := by
  apply List.getElem?_eq_none
  rw [xw_len]; exact hj
theorem xw_some {ad : Nat → Nat} {ca : Nat → ClassId} {n : Nat} {h : XH} {j : Nat} {q : Nat × va_E} (hq : (xw ad ca n h)[j]? = some q) : j < n ∧ q = (ad (j + 1), xe ad (ca (j + 1)) (h (j + 1))) := by
  rcases Nat.lt_or_ge j n with hj | hj
  · rw [xw_at hj] at hq
    exact ⟨hj, (Option.some.inj hq).symm⟩
  · rw [xw_no hj] at hq
    cases hq
theorem xw_set {ad : Nat → Nat} {ca : Nat → ClassId} {n : Nat} {h : XH} {k : Nat} {z : XE} (h1 : 1 ≤ k) (h2 : k ≤ n) : (xw ad ca n h).set (k - 1) (ad k, xe ad (ca k) z) = xw ad ca n (va_up h k z) := by
  apply List.ext_getElem?
  intro i
  rw [List.getElem?_set, xw_len]
  rcases Nat.lt_or_ge i n with hi | hi
  · by_cases hik : k - 1 = i
    · have e1 : i + 1 = k := by omega
      rw [if_pos hik, if_pos (by omega), xw_at hi, e1, va_up_self]
    · have e1 : i + 1 ≠ k := by omega
      rw [if_neg hik, xw_at hi, xw_at hi, va_up_ne _ _ e1]
  · rw [if_neg (by omega), xw_no hi, xw_no hi]
/-- references of a cell, of a value: not beyond n -/
def vok (n : Nat) (v : Value) : Prop := match v with
  | .ref r => r ≤ n
  | _ => True
def xl (n : Nat) (vs : List Value) : Prop := ∀ v ∈ vs, vok n v
def xlv (n : Nat) (lv : List (Nat × Value)) : Prop := ∀ q ∈ lv, vok n q.2
def xf (n : Nat) (z : XE) : Prop := match z with
  | .inl (_, (_, .inr (.inr (.inr (.inr f))))) => ∀ j r, f j = some r → r ≤ n
  | .inl _ => True
  | .inr (_, fs) => xl n fs
theorem vok_mono {n n' : Nat} {v : Value} (h : vok n v) (hn : n ≤ n') : vok n' v := by
  cases v <;> first | trivial | exact Nat.le_trans h hn
theorem xl_mono {n n' : Nat} {vs : List Value} (h : xl n vs) (hn : n ≤ n') : xl n' vs := fun v hv => vok_mono (h v hv) hn
theorem xlv_mono {n n' : Nat} {lv : List (Nat × Value)} (h : xlv n lv) (hn : n ≤ n') : xlv n' lv := fun q hq => vok_mono (h q hq) hn
theorem xl_nil {n : Nat} : xl n [] := fun v h => by cases h
theorem xl_cons {n : Nat} {v : Value} {vs : List Value} (h1 : vok n v) (h2 : xl n vs) : xl n (v :: vs) := by
  intro w hw
  rcases List.mem_cons.mp hw with h | h
  · rw [h]; exact h1
  · exact h2 w h
theorem xl_hd {n : Nat} {v : Value} {vs : List Value} (h : xl n (v :: vs)) : vok n v := h v List.mem_cons_self
theorem xl_tl {n : Nat} {v : Value} {vs : List Value} (h : xl n (v :: vs)) : xl n vs := fun w hw => h w (List.mem_cons_of_mem _ hw)
theorem xl_app {n : Nat} {a b : List Value} (h : xl n (a ++ b)) : xl n b := fun w hw => h w (List.mem_append_right _ hw)
theorem xf_mono {n n' : Nat} {z : XE} (h : xf n z) (hn : n ≤ n') : xf n' z := by
  rcases z with ⟨ty, m, f | f | f | f | f⟩ | ⟨ci, fs⟩
  · trivial
  · trivial
  · trivial
  · trivial
  · exact fun j r hr => Nat.le_trans (h j r hr) hn
  · exact xl_mono h hn
theorem xv_ext {n : Nat} {ad ad' : Nat → Nat} (ha : ∀ k, k ≤ n → ad' k = ad k) {v : Value} (h : vok n v) : xv ad' v = xv ad v := by
  cases v <;> first | rfl | exact congrArg Value.ref (ha _ h)
theorem xl_ext {n : Nat} {ad ad' : Nat → Nat} (ha : ∀ k, k ≤ n → ad' k = ad k) {vs : List Value} (h : xl n vs) : vs.map (xv ad') = vs.map (xv ad) := List.map_congr_left fun v hv => xv_ext ha (h v hv)
theorem xe_ext {n : Nat} {ad ad' : Nat → Nat} (ha : ∀ k, k ≤ n → ad' k = ad k) {z : XE} (cA : ClassId) (h : xf n z) : xe ad' cA z = xe ad cA z := by
  rcases z with ⟨ty, m, f | f | f | f | f⟩ | ⟨ci, fs⟩
  · rfl
  · rfl
  · rfl
  · rfl
  · have e1 : (fun j => (f j).map ad') = (fun j => (f j).map ad) := by
      funext j
      cases hf : f j with
      | none => rfl
      | some r => simp [ha r (h j r hf)]
    simp only [xe, xa, e1]
  · have e1 := xl_ext ha (vs := fs) h
    simp only [xe, e1]
def xm (ad : Nat → Nat) (lv : List (Nat × Value)) : List (Nat × Value) := lv.map (fun q => (q.1, xv ad q.2))
theorem xm_ext {n : Nat} {ad ad' : Nat → Nat} (ha : ∀ k, k ≤ n → ad' k = ad k) {lv : List (Nat × Value)} (h : xlv n lv) : xm ad' lv = xm ad lv := List.map_congr_left fun q hq => by rw [xv_ext ha (h q hq)]
theorem xm_at {ad : Nat → Nat} {lv : List (Nat × Value)} {k i : Nat} {v : Value} (h : lv[k]? = some (i, v)) : (xm ad lv)[k]? = some (i, xv ad v) := by simp [xm, h]
theorem xm_st (ad : Nat → Nat) (i : Nat) (lv : List (Nat × Value)) : (xm ad lv).filter (fun q => !(q.1 == i) && !(q.1 + 1 == i && q.2.category == 2)) = xm ad (lv.filter (fun q => !(q.1 == i) && !(q.1 + 1 == i && q.2.category == 2))) := by
  simp only [xm, List.filter_map]
  congr 1
  apply List.filter_congr
  intro q _
  simp [Function.comp, xv_cat]
theorem xm_st2 (ad : Nat → Nat) (i : Nat) (lv : List (Nat × Value)) : (xm ad lv).filter (fun q => !(q.1 == i) && (!(q.1 == i + 1) && !(q.1 + 1 == i && q.2.category == 2))) = xm ad (lv.filter (fun q => !(q.1 == i) && (!(q.1 == i + 1) && !(q.1 + 1 == i && q.2.category == 2)))) := by
  simp only [xm, List.filter_map]
  congr 1
  apply List.filter_congr
  intro q _
  simp [Function.comp, xv_cat]
theorem xlv_st {n i : Nat} {v : Value} {lv : List (Nat × Value)} (P : Nat × Value → Bool) (h1 : vok n v) (h2 : xlv n lv) : xlv n ((i, v) :: lv.filter P) := by
  intro q hq
  rcases List.mem_cons.mp hq with h | h
  · rw [h]; exact h1
  · exact h2 q (List.mem_filter.mp h).1
theorem xlv_at {n k i : Nat} {v : Value} {lv : List (Nat × Value)} (h : xlv n lv) (hk : lv[k]? = some (i, v)) : vok n v := h (i, v) (List.mem_of_getElem? hk)
theorem xlv_pick {n : Nat} {lv lv' : List (Nat × Value)} {ks : List Nat} (h : xlv n lv) (hk : lv_pick lv ks = lv') : xlv n lv' := by
  intro q hq
  rw [← hk] at hq
  obtain ⟨k, -, e⟩ := List.mem_filterMap.mp hq
  exact h q (List.mem_of_getElem? e)
theorem xm_pick (ad : Nat → Nat) (lv : List (Nat × Value)) (ks : List Nat) : lv_pick (xm ad lv) ks = xm ad (lv_pick lv ks) := by
  simp only [lv_pick, xm, List.map_filterMap]
  congr 1
  funext k
  simp
/-- the relation between the numbered heap and the machine's -/
def xR (D : va_G) (cl : List vw_C) (A : Nat → Prop) (s : State) (n : Nat) (h : XH) (ad : Nat → Nat) (ca : Nat → ClassId) (H : Heap) : Prop :=
  va_P D cl (xw ad ca n h) H ∧ va_D A (xw ad ca n h) ∧ (∀ k, xf n (h k)) ∧ (∀ (k : Nat) (ty : FieldType) (a : vp_A), h k = .inl (ty, a) → ArrOfT s (ca k) ty ∧ va_RA s (ca k) ty) ∧ ∀ k, ¬ (1 ≤ k ∧ k ≤ n) → h k = xN
theorem xR.cell {D : va_G} {cl : List vw_C} {A : Nat → Prop} {s : State} {n : Nat} {h : XH} {ad : Nat → Nat} {ca : Nat → ClassId} {H : Heap} (hR : xR D cl A s n h ad ca H) {k : Nat} {z : XE} (hz : h k = z) (hn : z ≠ xN) : 1 ≤ k ∧ k ≤ n ∧ (xw ad ca n h)[k - 1]? = some (ad k, xe ad (ca k) z) := by
  have hk : 1 ≤ k ∧ k ≤ n := Classical.byContradiction fun q => hn (hz.symm.trans (hR.2.2.2.2 k q))
  refine ⟨hk.1, hk.2, ?_⟩
  rw [xw_at1 hk.1 hk.2, hz]
theorem xR.set {D : va_G} {cl : List vw_C} {A : Nat → Prop} {s : State} {n : Nat} {h : XH} {ad : Nat → Nat} {ca : Nat → ClassId} {H H1 : Heap} (hR : xR D cl A s n h ad ca H) {k : Nat} {z : XE} (h1 : 1 ≤ k) (h2 : k ≤ n) (hP : va_P D cl ((xw ad ca n h).set (k - 1) (ad k, xe ad (ca k) z)) H1) (hD : va_D A ((xw ad ca n h).set (k - 1) (ad k, xe ad (ca k) z))) (hz : xf n z) (ht : ∀ (ty : FieldType) (a : vp_A), z = .inl (ty, a) → ∃ a0, h k = .inl (ty, a0)) : xR D cl A s n (va_up h k z) ad ca H1 := by
  rw [xw_set h1 h2] at hP hD
  refine ⟨hP, hD, fun j => ?_, fun j ty a e => ?_, fun j hj => ?_⟩
  · by_cases hjk : j = k
    · subst hjk; rw [va_up_self]; exact hz
    · rw [va_up_ne _ _ hjk]; exact hR.2.2.1 j
  · by_cases hjk : j = k
    · subst hjk
      rw [va_up_self] at e
      obtain ⟨a0, e0⟩ := ht ty a e
      exact hR.2.2.2.1 j ty a0 e0
    · rw [va_up_ne _ _ hjk] at e
      exact hR.2.2.2.1 j ty a e
  · rw [va_up_ne _ _ (fun q => hj (by rw [q]; exact ⟨h1, h2⟩))]
    exact hR.2.2.2.2 j hj
/-- a new cell -/
theorem xw_push {n : Nat} {h : XH} {ad : Nat → Nat} {ca : Nat → ClassId} {q : Nat} {cA : ClassId} {z : XE} (hf : ∀ k, xf n (h k)) : xw ad ca n h ++ [(q, xe (va_up ad (n + 1) q) cA z)] = xw (va_up ad (n + 1) q) (va_up ca (n + 1) cA) (n + 1) (va_up h (n + 1) z) := by
  apply List.ext_getElem?
  intro i
  rcases Nat.lt_trichotomy i n with hi | hi | hi
  · have hne : i + 1 ≠ n + 1 := by omega
    have e1 : xe (va_up ad (n + 1) q) (ca (i + 1)) (h (i + 1)) = xe ad (ca (i + 1)) (h (i + 1)) := xe_ext (n := n) (fun k hk => va_up_ne _ _ (by omega)) _ (hf (i + 1))
    rw [List.getElem?_append_left (by rw [xw_len]; exact hi), xw_at hi, xw_at (Nat.lt_succ_of_lt hi), va_up_ne ad _ hne, va_up_ne ca _ hne, va_up_ne h _ hne, e1]
  · subst hi
    rw [List.getElem?_append_right (by rw [xw_len]; exact Nat.le_refl i), xw_len, xw_at (by omega), va_up_self, va_up_self, va_up_self]
    simp
  · rw [xw_no (by omega)]
    apply List.getElem?_eq_none
    simp [xw_len]; omega
theorem xR.push {D : va_G} {cl : List vw_C} {A : Nat → Prop} {s : State} {n : Nat} {h : XH} {ad : Nat → Nat} {ca : Nat → ClassId} {H H1 : Heap} (hR : xR D cl A s n h ad ca H) {q : Nat} {cA : ClassId} {z : XE} {z' : va_E} (e0 : xe (va_up ad (n + 1) q) cA z = z') (hP : va_P D cl (xw ad ca n h ++ [(q, z')]) H1) (hD : va_D A (xw ad ca n h ++ [(q, z')])) (hz : xf (n + 1) z) (ht : ∀ (ty : FieldType) (a : vp_A), z = .inl (ty, a) → ArrOfT s cA ty ∧ va_RA s cA ty) : xR D cl A s (n + 1) (va_up h (n + 1) z) (va_up ad (n + 1) q) (va_up ca (n + 1) cA) H1 := by
  subst e0
  rw [xw_push hR.2.2.1] at hP hD
  refine ⟨hP, hD, fun j => ?_, fun j ty a e => ?_, fun j hj => ?_⟩
  · by_cases hjk : j = n + 1
    · subst hjk; rw [va_up_self]; exact hz
    · rw [va_up_ne _ _ hjk]; exact xf_mono (hR.2.2.1 j) (Nat.le_succ n)
  · by_cases hjk : j = n + 1
    · subst hjk
      rw [va_up_self] at e
      rw [va_up_self]
      exact ht ty a e
    · rw [va_up_ne _ _ hjk] at e
      rw [va_up_ne _ _ hjk]
      exact hR.2.2.2.1 j ty a e
  · rw [va_up_ne _ _ (by omega)]
    exact hR.2.2.2.2 j (by omega)
theorem xR.moved {D : va_G} {cl : List vw_C} {A B : Nat → Prop} {s t : State} {n : Nat} {h : XH} {ad : Nat → Nat} {ca : Nat → ClassId} {H : Heap} (hR : xR D cl A s n h ad ca H) (hvm : s.vm.Alike t.vm) (hAB : ∀ k, 1 ≤ k → k ≤ n → A (ad k) → B (ad k)) : xR D cl B t n h ad ca H := by
  refine ⟨hR.1, hR.2.1.weaken fun k q hk hq => ?_, hR.2.2.1, fun k ty a e => ?_, hR.2.2.2.2⟩
  · obtain ⟨h1, h2⟩ := xw_some hk
    subst h2
    exact hAB (k + 1) (by omega) (by omega) hq
  · obtain ⟨a1, a2⟩ := hR.2.2.2.1 k ty a e
    exact ⟨arrOfT_moved hvm a1, a2.moved hvm⟩
/-- which cells a method may change -/
def xA (n : Nat) (ad : Nat → Nat) (sz : Nat) : Nat → Prop := fun q => (∃ k, 1 ≤ k ∧ k ≤ n ∧ ad k = q) ∨ sz ≤ q
/-- a method's start and end -/
def xPre (D : va_G) (cl : List vw_C) (NW : List Cond) (AL : List String) (n : Nat) (h : XH) (ad : Nat → Nat) (ca : Nat → ClassId) (U : State) : Prop :=
  xR D cl (fun _ => True) U n h ad ca U.heap ∧ va_K D cl [] U ∧ (∀ w ∈ NW, va_Nw w U) ∧ ∀ C ∈ AL, va_AO C U
def xQc (D : va_G) (cl : List vw_C) (n : Nat) (ad : Nat → Nat) (A : Nat → Prop) (r : Option Value) (n' : Nat) (h' : XH) : Array Value → State → Outcome → State → Prop := fun _ st oc t =>
  (∃ (ad' : Nat → Nat) (ca' : Nat → ClassId), oc = .returned (r.map (xv ad')) ∧ (∀ k, k ≤ n → ad' k = ad k) ∧ n ≤ n' ∧ xl n' r.toList ∧ xR D cl A t n' h' ad' ca' t.heap) ∧ va_F A st t
def XMet (l : Launch) (y : MethodName) (cc : ByteArray) (maxL : Nat) (ret : Option FieldType) (Ts : List Cond) (cl : List vw_C) (NW : List Cond) (AL : List String) (D : va_G) (rm : Room) (mc ms : Nat) (av : List Value) (n : Nat) (h : XH) (r : Option Value) (n' : Nat) (h' : XH) : Prop :=
  ∀ (ad : Nat → Nat) (ca : Nat → ClassId) (sz : Nat), xl n av → Met l y (Cond.code y cc maxL ret :: Ts) rm (va_Pc (av.map (xv ad)) (fun U => U.heap.size = sz ∧ xPre D cl NW AL n h ad ca U)) (xQc D cl n ad (xA n ad sz) r n' h') mc ms (xA n ad sz)
def xGood (NW : List Cond) : Prop := ∀ w ∈ NW, (∃ (a : String) (i : Nat) (b n d g : String), w = .fieldLinkNest a i b n d g) ∨ (∃ (a : String) (i : Nat) (x : MethodName) (g : String), w = .methodLinkNest a i x g)
theorem xNw_warm {NW : List Cond} (hg : xGood NW) {s U : State} (hW : s.WarmedH U.vm) (h : ∀ w ∈ NW, va_Nw w s) : ∀ w ∈ NW, va_Nw w U := by
  intro w hw
  rcases hg w hw with ⟨a, i, b, n, d, g, rfl⟩ | ⟨a, i, x, g, rfl⟩
  · exact va_Nw.warmF hW (h _ hw)
  · exact va_Nw.warmM hW (h _ hw)
theorem xNw_same {NW : List Cond} (hg : xGood NW) {s U : State} (e : s.vm = U.vm) (h : ∀ w ∈ NW, va_Nw w s) : ∀ w ∈ NW, va_Nw w U := by
  intro w hw
  rcases hg w hw with ⟨a, i, b, n, d, g, rfl⟩ | ⟨a, i, x, g, rfl⟩
  · exact va_Nw.same rfl e (h _ hw)
  · exact va_Nw.same rfl e (h _ hw)
/-- what stands fast in a method's body -/
def XC (p : Program) (s : State) (m : MethodId) (args : Array Value) (c : Code) (cc : ByteArray) (nL : Nat) (own : String) (Ts : List Cond) (cl : List vw_C) (NW : List Cond) (AL : List String) (D : va_G) (A : Nat → Prop) : Prop :=
  CallFix p m c cc nL s args Ts own ∧ va_K D cl [] s ∧ (∀ q, s.heap.size ≤ q → A q) ∧ (∀ w ∈ NW, va_Nw w s) ∧ (∀ C ∈ AL, va_AO C s) ∧ xGood NW ∧ ∀ w ∈ Ts, goodWord w = true
/-- the machine stands at pc, locals lv, stack st, the numbered heap h of n cells -/
def XW (p : Program) (l : Launch) (e : Env) (R : Room) (s : State) (m : MethodId) (args : Array Value) (below : List Frame) (meth : Method) (c : Code) (nL : Nat) (cl : List vw_C) (D : va_G) (A : Nat → Prop) (ad0 : Nat → Nat) (n0 : Nat) (cells slots : Nat) (Q : State → Prop) (n : Nat) (h : XH) (pc : Nat) (lv : List (Nat × Value)) (st : List Value) : Prop :=
  ∀ (ad : Nat → Nat) (ca : Nat → ClassId) (H : Heap) (locs : List Loc) (ls : Array Slot), (∀ k, k ≤ n0 → ad k = ad0 k) → n0 ≤ n → xR D cl A s n h ad ca H → va_S A s.heap H locs → xlv n lv → xl n st → lv_has ls nL (xm ad lv) →
    W p l e R s m args below meth c H locs cells slots Q (F0 m pc ls (st.map (xv ad)))

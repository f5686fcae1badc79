/-! the steps of the printed functions: each may fail -/
def xb1 {α β : Type} (o : Option α) (k : α → Option β) : Option β := match o with
  | some a => k a
  | none => none
def xb2 {α β γ : Type} (o : Option (α × β)) (k : α → β → Option γ) : Option γ := match o with
  | some (a, b) => k a b
  | none => none
def xb3 {α β γ δ : Type} (o : Option (α × β × γ)) (k : α → β → γ → Option δ) : Option δ := match o with
  | some (a, b, c) => k a b c
  | none => none
def xchk {β : Type} (b : Bool) (k : Option β) : Option β := match b with
  | true => k
  | false => none
def xq {β : Type} (o : Option Nat) (a : Option β) (k : Nat → Option β) : Option β := match o with
  | none => a
  | some q => k q
def xzb (v : Int32) : Bool := decide (v = 0) || decide (v = 1)
theorem xb1_some {α β : Type} (a : α) (k : α → Option β) : xb1 (some a) k = k a := rfl
theorem xb2_some {α β γ : Type} (a : α) (b : β) (k : α → β → Option γ) : xb2 (some (a, b)) k = k a b := rfl
theorem xb3_some {α β γ δ : Type} (a : α) (b : β) (c : γ) (k : α → β → γ → Option δ) : xb3 (some (a, b, c)) k = k a b c := rfl
theorem xq_none {β : Type} (a : Option β) (k : Nat → Option β) : xq none a k = a := rfl
theorem xq_some {β : Type} (a : Option β) (k : Nat → Option β) (q : Nat) : xq (some q) a k = k q := rfl
theorem xchk_true {β : Type} (k : Option β) : xchk true k = k := rfl
theorem xb1_inv {α β : Type} {o : Option α} {k : α → Option β} {z : β} (h : xb1 o k = some z) : ∃ a, o = some a ∧ k a = some z := by
  cases o with
  | none => cases h
  | some a => exact ⟨a, rfl, h⟩
theorem xb2_inv {α β γ : Type} {o : Option (α × β)} {k : α → β → Option γ} {z : γ} (h : xb2 o k = some z) : ∃ a b, o = some (a, b) ∧ k a b = some z := by
  cases o with
  | none => cases h
  | some a => exact ⟨a.1, a.2, rfl, h⟩
theorem xb3_inv {α β γ δ : Type} {o : Option (α × β × γ)} {k : α → β → γ → Option δ} {z : δ} (h : xb3 o k = some z) : ∃ a b c, o = some (a, b, c) ∧ k a b c = some z := by
  cases o with
  | none => cases h
  | some a => exact ⟨a.1, a.2.1, a.2.2, rfl, h⟩
theorem xchk_inv {β : Type} {b : Bool} {k : Option β} {z : β} (h : xchk b k = some z) : b = true ∧ k = some z := by
  cases b with
  | false => cases h
  | true => exact ⟨rfl, h⟩
theorem xzb_nar {v : Int32} (h : xzb v = true) : narrow .boolean (.int v) = .int v := by
  simp only [xzb, Bool.or_eq_true, decide_eq_true_eq] at h
  rcases h with h | h <;> (rw [h]; decide)
section XS
variable {p : Program} {l : Launch} {e : Env} {R : Room} {s : State} {m : MethodId} {args : Array Value} {below : List Frame} {meth : Method} {c : Code} {Q : State → Prop}
variable {nL : Nat} {cl : List vw_C} {D : va_G} {A : Nat → Prop} {ad0 : Nat → Nat} {n0 : Nat}
variable {n : Nat} {h : XH} {cells slots pc : Nat} {lv : List (Nat × Value)} {st : List Value}
theorem xi_stk {st' : List Value} (hs : st = st') (k : XW p l e R s m args below meth c nL cl D A ad0 n0 cells slots Q n h pc lv st') : XW p l e R s m args below meth c nL cl D A ad0 n0 cells slots Q n h pc lv st := by rw [hs]; exact k
end XS

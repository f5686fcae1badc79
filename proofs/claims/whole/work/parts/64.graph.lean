/-! needs as a graph: an edge a, x if a is told before x; walks by their number of edges -/
def Wk (tb : Nat → Int32) : Nat → Nat → Nat → Prop
  | 0, a, b => a = b
  | n + 1, a, b => ∃ x, bt (tb x) a = true ∧ Wk tb n x b
theorem Wk.app {tb : Nat → Int32} {m n a b d : Nat} (h1 : Wk tb m a b) (h2 : Wk tb n b d) : Wk tb (m + n) a d := by
  induction m generalizing a with
  | zero => rw [Nat.zero_add]; rw [show a = b from h1]; exact h2
  | succ m ih =>
    obtain ⟨x, e, w⟩ := h1
    rw [show m + 1 + n = (m + n) + 1 by omega]
    exact ⟨x, e, ih w⟩
theorem Wk.one {tb : Nat → Int32} {a b : Nat} (h : bt (tb b) a = true) : Wk tb 1 a b := ⟨b, h, rfl⟩
theorem Wk.last {tb : Nat → Int32} {n a b : Nat} (h : Wk tb (n + 1) a b) : ∃ x, Wk tb n a x ∧ bt (tb b) x = true := by
  induction n generalizing a with
  | zero =>
    obtain ⟨x, e, w⟩ := h
    have w : x = b := w
    subst w
    exact ⟨a, rfl, e⟩
  | succ n ih =>
    obtain ⟨x, e, w⟩ := h
    obtain ⟨y, w1, e1⟩ := ih w
    exact ⟨y, ⟨x, e, w1⟩, e1⟩
/-- the class's rows: toldBefore is tb, allBefore is its closure, no ring -/
def GI (c : Nat) (tb ab : Nat → Int32) : Prop :=
  (∀ a b, bt (tb b) a = true → 1 ≤ a ∧ a ≤ c ∧ 1 ≤ b ∧ b ≤ c) ∧ (∀ a b, b ≤ 24 → (bt (ab b) a = true ↔ ∃ n, Wk tb (n + 1) a b)) ∧ ∀ n a, ¬ Wk tb (n + 1) a a
theorem Wk.rng {c : Nat} {tb : Nat → Int32} (hr : ∀ a b, bt (tb b) a = true → 1 ≤ a ∧ a ≤ c ∧ 1 ≤ b ∧ b ≤ c) {n a b : Nat} (h : Wk tb (n + 1) a b) : 1 ≤ a ∧ a ≤ c ∧ 1 ≤ b ∧ b ≤ c := by
  obtain ⟨x, e, w⟩ := h
  obtain ⟨h1, h2, -⟩ := hr a x e
  obtain ⟨y, w1, e1⟩ := Wk.last (n := n) ⟨x, e, w⟩
  obtain ⟨-, -, h3, h4⟩ := hr y b e1
  exact ⟨h1, h2, h3, h4⟩
/-- how many of 1 .. i are in a set -/
def cntB (S : Int32) : Nat → Nat
  | 0 => 0
  | i + 1 => cntB S i + (if bt S (i + 1) = true then 1 else 0)
theorem cntB_le (S : Int32) : ∀ n, cntB S n ≤ n := by
  intro n
  induction n with
  | zero => exact Nat.le_refl 0
  | succ n ih => unfold cntB; split <;> omega
theorem cntB_mono {S S' : Int32} (n : Nat) (h : ∀ i, 1 ≤ i → i ≤ n → bt S i = true → bt S' i = true) : cntB S n ≤ cntB S' n := by
  induction n with
  | zero => exact Nat.le_refl 0
  | succ n ih =>
    have ih := ih (fun i h1 h2 => h i h1 (by omega))
    unfold cntB
    by_cases q : bt S (n + 1) = true
    · rw [if_pos q, if_pos (h _ (by omega) (by omega) q)]; omega
    · rw [if_neg q]; split <;> omega
theorem cntB_lt {S S' : Int32} (n j : Nat) (h : ∀ i, 1 ≤ i → i ≤ n → bt S i = true → bt S' i = true) (h1 : 1 ≤ j) (h2 : j ≤ n) (h3 : ¬ bt S j = true) (h4 : bt S' j = true) : cntB S n < cntB S' n := by
  induction n with
  | zero => omega
  | succ n ih =>
    unfold cntB
    by_cases e : j = n + 1
    · subst e
      have := cntB_mono n (fun i h1 h2 => h i h1 (by omega))
      rw [if_neg h3, if_pos h4]; omega
    · have ih := ih (fun i h1 h2 => h i h1 (by omega)) (by omega)
      by_cases q : bt S (n + 1) = true
      · rw [if_pos q, if_pos (h _ (by omega) (by omega) q)]; omega
      · rw [if_neg q]; split <;> omega
theorem cntB_full {S : Int32} (n j : Nat) (h1 : 1 ≤ j) (h2 : j ≤ n) (h3 : ¬ bt S j = true) : cntB S n + 1 ≤ n := by
  induction n with
  | zero => omega
  | succ n ih =>
    unfold cntB
    by_cases e : j = n + 1
    · subst e
      rw [if_neg h3]
      have := cntB_le S n
      omega
    · have ih := ih (by omega)
      split <;> omega
/-- a walk is short: the sets of those before grow along it -/
theorem Wk.cnt {c : Nat} {tb ab : Nat → Int32} (G : GI c tb ab) (hc : c ≤ 24) {n a b : Nat} (h : Wk tb n a b) (hb : 1 ≤ b ∧ b ≤ c) : cntB (ab a) c + n ≤ cntB (ab b) c := by
  induction n generalizing a with
  | zero => rw [show a = b from h]; exact Nat.le_refl _
  | succ n ih =>
    obtain ⟨x, e, w⟩ := h
    have hx := G.1 a x e
    have ih := ih w
    have hlt : cntB (ab a) c < cntB (ab x) c := by
      refine cntB_lt c a (fun i _ _ hi => ?_) hx.1 hx.2.1 (fun q => ?_) ?_
      · obtain ⟨m, wm⟩ := (G.2.1 i a (by omega)).mp hi
        exact (G.2.1 i x (by omega)).mpr ⟨m + 1, by have := wm.app (Wk.one e); exact this⟩
      · obtain ⟨m, wm⟩ := (G.2.1 a a (by omega)).mp q
        exact G.2.2 m a wm
      · exact (G.2.1 a x (by omega)).mpr ⟨0, Wk.one e⟩
    omega
theorem Wk.short {c : Nat} {tb ab : Nat → Int32} (G : GI c tb ab) (hc : c ≤ 24) {n a b : Nat} (h : Wk tb n a b) (hb : 1 ≤ b ∧ b ≤ c) : n + 1 ≤ c := by
  have h1 := h.cnt G hc hb
  have h2 : cntB (ab b) c + 1 ≤ c := cntB_full c b hb.1 hb.2 (fun q => by
    obtain ⟨m, wm⟩ := (G.2.1 b b (by omega)).mp q
    exact G.2.2 m b wm)
  omega
/-- a new need a, b that closes no ring -/
theorem GI.add {c : Nat} {tb ab : Nat → Int32} (G : GI c tb ab) (hc : c ≤ 24) {a b : Nat} (ha : 1 ≤ a ∧ a ≤ c) (hb : 1 ≤ b ∧ b ≤ c) (hn : ∀ n, ¬ Wk tb n b a) (tb' ab' : Nat → Int32)
    (e1 : ∀ y x, bt (tb' y) x = (bt (tb y) x || (decide (y = b) && decide (x = a)))) (e2 : ∀ y x, y ≤ 24 → bt (ab' y) x = (bt (ab y) x || ((decide (y = b) || bt (ab y) b) && (bt (ab a) x || decide (x = a))))) : GI c tb' ab' := by
  have ed : ∀ y x, bt (tb' y) x = true ↔ bt (tb y) x = true ∨ (y = b ∧ x = a) := fun y x => by rw [e1]; simp
  have up : ∀ n x y, Wk tb n x y → Wk tb' n x y := by
    intro n
    induction n with
    | zero => intro x y h; exact h
    | succ n ih =>
      intro x y h
      obtain ⟨z, e, w⟩ := h
      exact ⟨z, (ed z x).mpr (Or.inl e), ih z y w⟩
  have dn : ∀ n x y, Wk tb' n x y → (∃ m, Wk tb m x y) ∨ ((∃ m, Wk tb m x a) ∧ ∃ m, Wk tb m b y) := by
    intro n
    induction n with
    | zero => intro x y h; exact Or.inl ⟨0, h⟩
    | succ n ih =>
      intro x y h
      obtain ⟨z, e, w⟩ := h
      rcases (ed z x).mp e with q | ⟨q1, q2⟩
      · rcases ih z y w with ⟨m, wm⟩ | ⟨⟨m, wm⟩, k⟩
        · exact Or.inl ⟨m + 1, z, q, wm⟩
        · exact Or.inr ⟨⟨m + 1, z, q, wm⟩, k⟩
      · subst q1; subst q2
        rcases ih z y w with k | ⟨-, k⟩
        · exact Or.inr ⟨⟨0, rfl⟩, k⟩
        · exact Or.inr ⟨⟨0, rfl⟩, k⟩
  have dn1 : ∀ n x y, Wk tb' (n + 1) x y → (∃ m, Wk tb (m + 1) x y) ∨ ((∃ m, Wk tb m x a) ∧ ∃ m, Wk tb m b y) := by
    intro n x y h
    obtain ⟨z, e, w⟩ := h
    rcases (ed z x).mp e with q | ⟨q1, q2⟩
    · rcases dn n z y w with ⟨m, wm⟩ | ⟨⟨m, wm⟩, k⟩
      · exact Or.inl ⟨m, z, q, wm⟩
      · exact Or.inr ⟨⟨m + 1, z, q, wm⟩, k⟩
    · subst q1; subst q2
      rcases dn n z y w with k | ⟨-, k⟩
      · exact Or.inr ⟨⟨0, rfl⟩, k⟩
      · exact Or.inr ⟨⟨0, rfl⟩, k⟩
  have rf : ∀ x y, y ≤ 24 → ((∃ m, Wk tb m x y) ↔ x = y ∨ bt (ab y) x = true) := by
    intro x y hy
    constructor
    · rintro ⟨m, wm⟩
      cases m with
      | zero => exact Or.inl wm
      | succ m => exact Or.inr ((G.2.1 x y hy).mpr ⟨m, wm⟩)
    · rintro (q | q)
      · exact ⟨0, q⟩
      · obtain ⟨m, wm⟩ := (G.2.1 x y hy).mp q
        exact ⟨m + 1, wm⟩
  refine ⟨fun x y h => ?_, fun x y hy => ?_, fun n x h => ?_⟩
  · rcases (ed y x).mp h with q | ⟨q1, q2⟩
    · exact G.1 x y q
    · rw [q1, q2]; exact ⟨ha.1, ha.2, hb.1, hb.2⟩
  · have r1 := rf x a (by omega)
    have r2 := rf b y hy
    constructor
    · intro h
      rw [e2 y x hy] at h
      simp only [Bool.or_eq_true, Bool.and_eq_true, decide_eq_true_eq] at h
      rcases h with q | ⟨q1, q2⟩
      · obtain ⟨m, wm⟩ := (G.2.1 x y hy).mp q
        exact ⟨m, up _ _ _ wm⟩
      · obtain ⟨m1, w1⟩ := r1.mpr (q2.elim Or.inr Or.inl)
        obtain ⟨m2, w2⟩ := r2.mpr (q1.elim (fun z => Or.inl z.symm) Or.inr)
        have w3 : Wk tb' 1 a b := Wk.one ((ed b a).mpr (Or.inr ⟨rfl, rfl⟩))
        refine ⟨m1 + m2, ?_⟩
        have := ((up _ _ _ w1).app w3).app (up _ _ _ w2)
        rw [show m1 + m2 + 1 = m1 + 1 + m2 by omega]
        exact this
    · rintro ⟨n, w⟩
      rw [e2 y x hy]
      simp only [Bool.or_eq_true, Bool.and_eq_true, decide_eq_true_eq]
      rcases dn1 n x y w with k | ⟨k1, k2⟩
      · exact Or.inl ((G.2.1 x y hy).mpr k)
      · exact Or.inr ⟨(r2.mp k2).elim (fun z => Or.inl z.symm) Or.inr, (r1.mp k1).elim Or.inr Or.inl⟩
  · rcases dn1 n x x h with ⟨m, wm⟩ | ⟨⟨m1, w1⟩, ⟨m2, w2⟩⟩
    · exact G.2.2 m x wm
    · exact hn _ (w2.app w1)
/-- a shortest walk -/
theorem Wk.least {tb : Nat → Int32} {n a b : Nat} (h : Wk tb n a b) : ∃ d, d ≤ n ∧ Wk tb d a b ∧ ∀ m, Wk tb m a b → d ≤ m := by
  obtain ⟨d, h1, h2⟩ := pk_least (fun k => Wk tb k a b) ⟨n, h⟩
  have h3 : ∀ m, Wk tb m a b → d ≤ m := fun m hm => by
    rcases Nat.lt_or_ge m d with q | q
    · exact absurd hm (h2 m q)
    · exact q
  exact ⟨d, h3 n h, h1, h3⟩

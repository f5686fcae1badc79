/-! what is to run: the rows of the class (cells 2 to 7) and of the reference (20 to 24) hold the same numbers -/
def CU (h : XH) (c : Nat) (pe co sp rd wr : Nat → Int32) : Prop := h 2 = .inr (1, [.int (nI c), .ref 3, .ref 4, .ref 5, .ref 6, .ref 7]) ∧ h 3 = .inl (.int, (25, .inl pe)) ∧ h 4 = .inl (.int, (25, .inl co)) ∧ h 5 = .inl (.int, (25, .inl sp)) ∧ h 6 = .inl (.int, (25, .inl rd)) ∧ h 7 = .inl (.int, (25, .inl wr))
theorem CU.c {h : XH} {c : Nat} {pe co sp rd wr : Nat → Int32} (H : CU h c pe co sp rd wr) : xgI h 1 0 2 = some (nI c) := xgI_at H.1 rfl
theorem CU.p {h : XH} {c : Nat} {pe co sp rd wr : Nat → Int32} (H : CU h c pe co sp rd wr) : xgR h 1 1 2 = some 3 := xgR_at H.1 rfl
theorem CU.k {h : XH} {c : Nat} {pe co sp rd wr : Nat → Int32} (H : CU h c pe co sp rd wr) : xgR h 1 2 2 = some 4 := xgR_at H.1 rfl
theorem CU.s {h : XH} {c : Nat} {pe co sp rd wr : Nat → Int32} (H : CU h c pe co sp rd wr) : xgR h 1 3 2 = some 5 := xgR_at H.1 rfl
theorem CU.r {h : XH} {c : Nat} {pe co sp rd wr : Nat → Int32} (H : CU h c pe co sp rd wr) : xgR h 1 4 2 = some 6 := xgR_at H.1 rfl
theorem CU.w {h : XH} {c : Nat} {pe co sp rd wr : Nat → Int32} (H : CU h c pe co sp rd wr) : xgR h 1 5 2 = some 7 := xgR_at H.1 rfl
theorem CU.i {h : XH} {c : Nat} {pe co sp rd wr : Nat → Int32} (H : CU h c pe co sp rd wr) : xis h 1 2 = true := xis_at H.1
def mO (cd : Int32) (c : Nat) (rs bu bs : Int32) : XE := .inr (4, [.int cd, .int (nI c), .ref 21, .ref 22, .ref 23, .ref 24, .ref 25, .ref 26, .int rs, .ref 27, .ref 28, .int bu, .int bs, .ref 29, .ref 30, .ref 31, .ref 32, .ref 33, .ref 34])
/-- the reference's rows of what is to run -/
def MU (h : XH) (c : Nat) (pe co sp : Nat → Int32) : Prop := (∃ cd rs bu bs, h 20 = mO cd c rs bu bs) ∧ h 21 = .inl (.int, (25, .inl pe)) ∧ h 22 = .inl (.int, (25, .inl co)) ∧ h 23 = .inl (.int, (25, .inl sp))
theorem MU.c {h : XH} {c : Nat} {pe co sp : Nat → Int32} (H : MU h c pe co sp) : xgI h 4 1 20 = some (nI c) := by obtain ⟨⟨_, _, _, _, e⟩, -⟩ := H; exact xgI_at e rfl
theorem MU.p {h : XH} {c : Nat} {pe co sp : Nat → Int32} (H : MU h c pe co sp) : xgR h 4 2 20 = some 21 := by obtain ⟨⟨_, _, _, _, e⟩, -⟩ := H; exact xgR_at e rfl
theorem MU.k {h : XH} {c : Nat} {pe co sp : Nat → Int32} (H : MU h c pe co sp) : xgR h 4 3 20 = some 22 := by obtain ⟨⟨_, _, _, _, e⟩, -⟩ := H; exact xgR_at e rfl
theorem MU.i {h : XH} {c : Nat} {pe co sp : Nat → Int32} (H : MU h c pe co sp) : xis h 4 20 = true := by obtain ⟨⟨_, _, _, _, e⟩, -⟩ := H; exact xis_at e
/-- the set of the runnables of one core and one period among the first -/
def grpF (pe co : Nat → Int32) (x y : Int32) : Nat → Int32
  | 0 => 0
  | r + 1 => if co (r + 1) = x ∧ pe (r + 1) = y then grpF pe co x y r ||| ((1 : Int32) <<< (nI (r + 1) &&& 31)) else grpF pe co x y r
theorem grpF_bit (pe co : Nat → Int32) (x y : Int32) (i : Nat) (hi : i < 32) : ∀ r, r < 32 → bt (grpF pe co x y r) i = decide (1 ≤ i ∧ i ≤ r ∧ co i = x ∧ pe i = y) := by
  intro r
  induction r with
  | zero => intro _; rw [grpF, b_0]; exact (decide_eq_false (by omega)).symm
  | succ r ih =>
    intro hr
    have ih := ih (by omega)
    unfold grpF
    by_cases hc : co (r + 1) = x ∧ pe (r + 1) = y
    · rw [if_pos hc, b_or, ih, b_sh (r + 1) hr hi]
      by_cases e : i = r + 1
      · subst e
        simp [hc.1, hc.2]
      · rw [decide_eq_false e, Bool.or_false]
        apply decide_eq_decide.mpr
        constructor
        · rintro ⟨a, b, c⟩; exact ⟨a, by omega, c⟩
        · rintro ⟨a, b, c⟩; exact ⟨a, by omega, c⟩
    · rw [if_neg hc, ih]
      apply decide_eq_decide.mpr
      constructor
      · rintro ⟨a, b, c⟩; exact ⟨a, by omega, c⟩
      · rintro ⟨a, b, c⟩
        refine ⟨a, ?_, c⟩
        rcases Nat.lt_or_ge r i with q | q
        · have e : i = r + 1 := by omega
          subst e
          exact absurd c hc
        · exact q
section RU
variable {h : XH} {c : Nat} {pe co sp rd wr : Nat → Int32}
theorem group_loop (H : CU h c pe co sp rd wr) (hc : c ≤ 24) (x y : Int32) : ∀ k i f, i + k = c → k < f → D_U_group_5 f 2 x y (grpF pe co x y i) (nI (i + 1)) h = some (grpF pe co x y c) := by
  have g1 := H.c
  have g2 := H.p
  have g3 := H.k
  obtain ⟨e2, e3, e4, -⟩ := H
  intro k
  induction k with
  | zero =>
    intro i f hi hf
    obtain ⟨f, rfl⟩ : ∃ g, f = g + 1 := ⟨f - 1, by omega⟩
    have : i = c := by omega
    subst this
    simp only [D_U_group_5, g1, xb1_some]
    rw [if_pos (nI_lt (by omega) (by omega))]
  | succ k ih =>
    intro i f hi hf
    obtain ⟨f, rfl⟩ : ∃ g, f = g + 1 := ⟨f - 1, by omega⟩
    have hs := ih (i + 1) f (by omega) (by omega)
    simp only [D_U_group_5, D_U_group_43, g1, g2, g3, xb1_some, xaI_at e4 (show i + 1 < 25 by omega) (by decide), xaI_at e3 (show i + 1 < 25 by omega) (by decide), nI_1]
    rw [if_neg (nI_nlt (by omega) (by omega))]
    rw [grpF] at hs
    by_cases h1 : co (i + 1) = x
    · rw [if_pos h1]
      by_cases h2 : pe (i + 1) = y
      · rw [if_pos h2]; rw [if_pos ⟨h1, h2⟩] at hs; exact hs
      · rw [if_neg h2]; rw [if_neg (fun q => h2 q.2)] at hs; exact hs
    · rw [if_neg h1]; rw [if_neg (fun q => h1 q.1)] at hs; exact hs
theorem group_eq (H : CU h c pe co sp rd wr) (hc : c ≤ 24) (x y : Int32) : X_U_group 2 x y h = some (grpF pe co x y c) := group_loop H hc x y c 0 5000 (by omega) (by omega)
theorem with_loop (H : MU h c pe co sp) (hc : c ≤ 24) (x y : Int32) : ∀ k i f, i + k = c → k < f → D_M_with_5 f 20 x y (grpF pe co x y i) (nI (i + 1)) h = some (grpF pe co x y c) := by
  have g1 := H.c
  have g2 := H.p
  have g3 := H.k
  obtain ⟨-, e3, e4, -⟩ := H
  intro k
  induction k with
  | zero =>
    intro i f hi hf
    obtain ⟨f, rfl⟩ : ∃ g, f = g + 1 := ⟨f - 1, by omega⟩
    have : i = c := by omega
    subst this
    simp only [D_M_with_5, g1, xb1_some]
    rw [if_pos (nI_lt (by omega) (by omega))]
  | succ k ih =>
    intro i f hi hf
    obtain ⟨f, rfl⟩ : ∃ g, f = g + 1 := ⟨f - 1, by omega⟩
    have hs := ih (i + 1) f (by omega) (by omega)
    have z0 : ∀ z : Int32, z ||| 0 = z := fun z => b_ext fun i _ => by rw [b_or, b_0, Bool.or_false]
    simp only [D_M_with_5, D_M_with_44, D_M_with_45, g1, g2, g3, xb1_some, xaI_at e4 (show i + 1 < 25 by omega) (by decide), xaI_at e3 (show i + 1 < 25 by omega) (by decide), nI_1, z0]
    rw [if_neg (nI_nlt (by omega) (by omega))]
    rw [grpF] at hs
    by_cases h1 : co (i + 1) = x
    · rw [if_pos h1]
      by_cases h2 : pe (i + 1) = y
      · rw [if_pos h2]; rw [if_pos ⟨h1, h2⟩] at hs; exact hs
      · rw [if_neg h2]; rw [if_neg (fun q => h2 q.2)] at hs; exact hs
    · rw [if_neg h1]; rw [if_neg (fun q => h1 q.1)] at hs; exact hs
theorem with_eq (H : MU h c pe co sp) (hc : c ≤ 24) (x y : Int32) : X_M_with 20 x y h = some (grpF pe co x y c) := with_loop H hc x y c 0 5000 (by omega) (by omega)
theorem has_eq (H : CU h c pe co sp rd wr) (x : Int32) : X_U_has 2 x h = some (if 1 ≤ x ∧ x ≤ nI c then 1 else 0) := by
  unfold X_U_has D_U_has_0
  rw [xgI_at H.1 rfl, xb1_some, isWithin_eq, xb1_some, w01]
  rfl
theorem isRunnable_eq (H : MU h c pe co sp) (x : Int32) : X_M_isRunnable 20 x h = some (if 1 ≤ x ∧ x ≤ nI c then 1 else 0) := by
  unfold X_M_isRunnable D_M_isRunnable_0
  rw [H.c, xb1_some, misIn32 x 1 (nI c) 1 _ rfl rfl, xb1_some, w01]
  rfl
/-- a task is counted at the least of its runnables -/
abbrev opF (pe co : Nat → Int32) (r : Nat) : Prop := pe r = 0 ∨ ∀ k, k < r → 1 ≤ k → ¬ (co k = co r ∧ pe k = pe r)
theorem opens_loop (H : CU h c pe co sp rd wr) (r : Nat) (hr : r ≤ 24) : ∀ k i f, 1 ≤ i → i + k = r → k < f → (∀ j, j < i → 1 ≤ j → ¬ (co j = co r ∧ pe j = pe r)) → D_U_opensTask_13 f 2 (nI r) (nI i) h = some (if ∀ j, j < r → 1 ≤ j → ¬ (co j = co r ∧ pe j = pe r) then 1 else 0) := by
  obtain ⟨e2, e3, e4, -⟩ := H
  intro k
  induction k with
  | zero =>
    intro i f h1 hi hf hp
    obtain ⟨f, rfl⟩ : ∃ g, f = g + 1 := ⟨f - 1, by omega⟩
    have : i = r := by omega
    subst this
    simp only [D_U_opensTask_13]
    rw [if_pos (nI_le (by omega) (by omega)), if_pos hp]
  | succ k ih =>
    intro i f h1 hi hf hp
    obtain ⟨f, rfl⟩ : ∃ g, f = g + 1 := ⟨f - 1, by omega⟩
    simp only [D_U_opensTask_13, D_U_opensTask_50, xgR_at (k := 2) e2 rfl, xgR_at (k := 1) e2 rfl, xb1_some, xaI_at e4 (show i < 25 by omega) (by decide), xaI_at e3 (show i < 25 by omega) (by decide), xaI_at e4 (show r < 25 by omega) (by decide), xaI_at e3 (show r < 25 by omega) (by decide), nI_1]
    rw [if_neg (nI_ge (by omega) (by omega))]
    have step : ¬ (co i = co r ∧ pe i = pe r) → D_U_opensTask_13 f 2 (nI r) (nI (i + 1)) h = some (if ∀ j, j < r → 1 ≤ j → ¬ (co j = co r ∧ pe j = pe r) then 1 else 0) := fun hn => ih (i + 1) f (by omega) (by omega) (by omega) (fun j hj2 hj1 => by
      rcases Nat.lt_or_ge j i with q | q
      · exact hp j q hj1
      · have : j = i := by omega
        subst this; exact hn)
    by_cases a : co i = co r
    · rw [if_pos a]
      by_cases b : pe i = pe r
      · rw [if_pos b, if_neg (fun q => q i (by omega) h1 ⟨a, b⟩)]
      · rw [if_neg b]; exact step (fun q => b q.2)
    · rw [if_neg a]; exact step (fun q => a q.1)
theorem opens_eq (H : CU h c pe co sp rd wr) (r : Nat) (h1 : 1 ≤ r) (hr : r ≤ 24) : X_U_opensTask 2 (nI r) h = some (if opF pe co r then 1 else 0) := by
  have e2 := H.1
  have e3 := H.2.1
  unfold X_U_opensTask D_U_opensTask_0
  rw [xgR_at (k := 1) e2 rfl, xb1_some, xaI_at e3 (show r < 25 by omega) (by decide), xb1_some]
  by_cases a : pe r = 0
  · rw [if_pos a, if_pos (Or.inl a)]
  · rw [if_neg a]
    have := opens_loop H r hr (r - 1) 1 5000 (Nat.le_refl 1) (by omega) (by omega) (fun j a b => absurd b (by omega))
    refine this.trans ?_
    by_cases b : ∀ j, j < r → 1 ≤ j → ¬ (co j = co r ∧ pe j = pe r)
    · rw [if_pos b, if_pos (Or.inr b)]
    · rw [if_neg b, if_neg (fun q => q.elim a b)]
end RU

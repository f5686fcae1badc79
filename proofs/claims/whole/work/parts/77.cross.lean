/-! cross(data) -/
def orF (P : Nat → Bool) : Nat → Bool
  | 0 => false
  | i + 1 => orF P i || P (i + 1)
theorem orF_iff (P : Nat → Bool) : ∀ n, orF P n = true ↔ ∃ r, 1 ≤ r ∧ r ≤ n ∧ P r = true := by
  intro n
  induction n with
  | zero =>
    constructor
    · intro h; cases h
    · rintro ⟨r, h1, h2, -⟩; omega
  | succ n ih =>
    unfold orF
    rw [Bool.or_eq_true, ih]
    constructor
    · rintro (⟨r, h1, h2, h3⟩ | h)
      · exact ⟨r, h1, by omega, h3⟩
      · exact ⟨n + 1, by omega, by omega, h⟩
    · rintro ⟨r, h1, h2, h3⟩
      by_cases e : r = n + 1
      · subst e; exact Or.inr h3
      · exact Or.inl ⟨r, h1, by omega, h3⟩
def b2i (b : Bool) : Int32 := if b = true then 1 else 0
theorem b2i_0 {b : Bool} : b2i b = 0 ↔ b = false := by cases b <;> decide
/-- the set of the cores of those that have bit d in a row -/
def cbF (co rd : Nat → Int32) (d : Nat) : Nat → Int32
  | 0 => 0
  | i + 1 => if bt (rd (i + 1)) d = true then cbF co rd d i ||| ((1 : Int32) <<< (co (i + 1) &&& 31)) else cbF co rd d i
theorem cbF_bit {co rd : Nat → Int32} {d k : Nat} (hk : k < 32) : ∀ n, (∀ r, 1 ≤ r → r ≤ n → ∃ k, 1 ≤ k ∧ k ≤ 4 ∧ co r = nI k) → bt (cbF co rd d n) k = orF (fun r => decide (co r = nI k) && bt (rd r) d) n := by
  intro n
  induction n with
  | zero => intro _; exact b_0 k
  | succ n ih =>
    intro h
    have ih := ih (fun r h1 h2 => h r h1 (by omega))
    obtain ⟨j, j1, j2, j3⟩ := h (n + 1) (by omega) (by omega)
    unfold cbF orF
    rw [j3]
    by_cases q : bt (rd (n + 1)) d = true
    · rw [if_pos q, b_or, ih, b_sh j (by omega) hk, q, Bool.and_true]
      congr 1
      by_cases e : k = j
      · rw [decide_eq_true e, decide_eq_true (by rw [e])]
      · rw [decide_eq_false e, decide_eq_false (fun w => e ((nI_eq (by omega) (by omega)).mp w).symm)]
    · rw [if_neg q, ih]
      have q : bt (rd (n + 1)) d = false := by simpa using q
      rw [q, Bool.and_false, Bool.or_false]
section Cr
variable {h h1 : XH} {c : Nat} {pe co sp rd wr : Nat → Int32} {A : Nat → Nat → Int32} {cd : Int32} {tc B : Nat} {bu : Int32}
theorem cross_sets (H : CU h c pe co sp rd wr) (hc : c ≤ 24) (d : Nat) (hd : d < 32) : ∀ k i f, i + k = c → k < f → D_U_copiesAcross_7 f 2 (nI d) (cbF co rd d i) (cbF co wr d i) (nI (i + 1)) h = D_U_copiesAcross_80 5000 (cbF co rd d c) (cbF co wr d c) 0 1 h := by
  intro k
  induction k with
  | zero =>
    intro i f hi hf
    obtain ⟨f, rfl⟩ : ∃ g, f = g + 1 := ⟨f - 1, by omega⟩
    obtain rfl : i = c := by omega
    simp only [D_U_copiesAcross_7, H.c, xb1_some]
    rw [if_pos (nI_lt (by omega) (by omega))]
  | succ k ih =>
    intro i f hi hf
    obtain ⟨f, rfl⟩ : ∃ g, f = g + 1 := ⟨f - 1, by omega⟩
    have hs := ih (i + 1) f (by omega) (by omega)
    simp only [D_U_copiesAcross_7, D_U_copiesAcross_42, D_U_copiesAcross_68, H.c, H.r, H.w, H.k, xb1_some, xaI_at H.2.2.2.2.1 (show i + 1 < 25 by omega) (by decide), xaI_at H.2.2.2.2.2 (show i + 1 < 25 by omega) (by decide), xaI_at H.2.2.1 (show i + 1 < 25 by omega) (by decide), isIn_eq _ d hd, w01i, nI_1]
    rw [if_neg (nI_nlt (by omega) (by omega))]
    rw [cbF, cbF] at hs
    by_cases q : bt (rd (i + 1)) d = true
    · rw [if_pos q] at hs
      rw [if_neg (fun z => z q)]
      by_cases w : bt (wr (i + 1)) d = true
      · rw [if_pos w] at hs
        rw [if_neg (fun z => z w)]
        exact hs
      · rw [if_neg w] at hs
        rw [if_pos w]
        exact hs
    · rw [if_neg q] at hs
      rw [if_pos q]
      by_cases w : bt (wr (i + 1)) d = true
      · rw [if_pos w] at hs
        rw [if_neg (fun z => z w)]
        exact hs
      · rw [if_neg w] at hs
        rw [if_pos w]
        exact hs
theorem mcross_in (M : CM h A cd c tc bu B) (hc : c ≤ 24) (d : Nat) (hd : d ≤ 20) (x2 x3 : Int32) (k34 : Nat → Int32 → Int32 → Int32 → XH → Option (Int32 × XH)) : ∀ k i f, i + k = c → k < f → D_M_cross_48 k34 f 20 (nI d) x2 x3 (b2i (orF (fun r => decide (A 22 r = x3) && bt (A 25 d) r) i)) (b2i (orF (fun r => !decide (A 22 r = x3) && bt (A 26 d) r) i)) (nI (i + 1)) h = k34 20 (nI d) (x2 + b2i (orF (fun r => decide (A 22 r = x3) && bt (A 25 d) r) c && orF (fun r => !decide (A 22 r = x3) && bt (A 26 d) r) c)) (x3 + 1) h := by
  intro k
  induction k with
  | zero =>
    intro i f hi hf
    obtain ⟨f, rfl⟩ : ∃ g, f = g + 1 := ⟨f - 1, by omega⟩
    obtain rfl : i = c := by omega
    simp only [D_M_cross_48, D_M_cross_154, D_M_cross_155, M.gc, xb1_some]
    rw [if_pos (nI_lt (by omega) (by omega))]
    cases orF (fun r => decide (A 22 r = x3) && bt (A 25 d) r) i <;> cases orF (fun r => !decide (A 22 r = x3) && bt (A 26 d) r) i <;> rfl
  | succ k ih =>
    intro i f hi hf
    obtain ⟨f, rfl⟩ : ∃ g, f = g + 1 := ⟨f - 1, by omega⟩
    have hs := ih (i + 1) f (by omega) (by omega)
    rw [orF, orF] at hs
    simp only [D_M_cross_48, D_M_cross_88, D_M_cross_92, D_M_cross_93, D_M_cross_126, D_M_cross_130, D_M_cross_131, M.gc, M.g3, M.g6, M.g7, xb1_some, xaI_at M.a22 (show i + 1 < 25 by omega) (by decide), xaI_at M.a25 (show d < 21 by omega) (by decide), xaI_at M.a26 (show d < 21 by omega) (by decide), b_shr_t _ (i + 1) (show i + 1 < 32 by omega), nI_1, b2i_0]
    rw [if_neg (nI_nlt (by omega) (by omega))]
    generalize orF (fun r => decide (A 22 r = x3) && bt (A 25 d) r) i = a at hs ⊢
    generalize orF (fun r => !decide (A 22 r = x3) && bt (A 26 d) r) i = b at hs ⊢
    cases a <;> cases b <;> by_cases e : A 22 (i + 1) = x3 <;> cases q : bt (A 25 d) (i + 1) <;> cases w : bt (A 26 d) (i + 1) <;> simp only [e, q, w, decide_true, decide_false, Bool.not_true, Bool.not_false, Bool.true_and, Bool.false_and, Bool.and_true, Bool.and_false, Bool.or_true, Bool.or_false, Bool.true_or, Bool.false_or, if_true, if_false, Bool.true_eq_false, Bool.false_eq_true] at hs ⊢ <;> exact hs
theorem cross_loop (M : CM h1 A cd c tc bu B) (hc : c ≤ 24) (hk : ∀ r, 1 ≤ r → r ≤ c → ∃ k, 1 ≤ k ∧ k ≤ 4 ∧ A 22 r = nI k) (d : Nat) (hd : d ≤ 20) {rd wr : Nat → Int32} (er : ∀ r, r ≤ 24 → bt (rd r) d = bt (A 25 d) r) (ew : ∀ r, r ≤ 24 → bt (wr r) d = bt (A 26 d) r) : ∀ k i f x, i + k = 4 → k < f → ∃ v, D_U_copiesAcross_80 f (cbF (A 22) rd d c) (cbF (A 22) wr d c) x (nI (i + 1)) h = some v ∧ D_M_cross_34 f 20 (nI d) x (nI (i + 1)) h1 = some (v, h1) := by
  intro k
  induction k with
  | zero =>
    intro i f x hi hf
    obtain ⟨f, rfl⟩ : ∃ g, f = g + 1 := ⟨f - 1, by omega⟩
    obtain rfl : i = 4 := by omega
    exact ⟨x, rfl, rfl⟩
  | succ k ih =>
    intro i f x hi hf
    obtain ⟨f, rfl⟩ : ∃ g, f = g + 1 := ⟨f - 1, by omega⟩
    have g4 : ¬ (4 : Int32) < nI (i + 1) := nI_nlt (a := 4) (by omega) (by decide)
    have e1 : bt (cbF (A 22) rd d c) (i + 1) = orF (fun r => decide (A 22 r = nI (i + 1)) && bt (A 25 d) r) c := by
      rw [cbF_bit (by omega) c hk]
      rw [Bool.eq_iff_iff, orF_iff, orF_iff]
      constructor
      · rintro ⟨r, r1, r2, r3⟩
        exact ⟨r, r1, r2, by rw [← er r (by omega)]; exact r3⟩
      · rintro ⟨r, r1, r2, r3⟩
        exact ⟨r, r1, r2, by rw [er r (by omega)]; exact r3⟩
    have e2 : (cbF (A 22) wr d c &&& (((1 : Int32) <<< (nI (i + 1) &&& 31)) ^^^ (-1))) = 0 ↔ orF (fun r => !decide (A 22 r = nI (i + 1)) && bt (A 26 d) r) c = false := by
      rw [← Bool.not_eq_true, orF_iff, b_zero]
      constructor
      · rintro h ⟨r, r1, r2, r3⟩
        obtain ⟨j, j1, j2, j3⟩ := hk r r1 r2
        have h := h j (by omega)
        rw [b_not _ (i + 1) (by omega) (by omega), cbF_bit (by omega) c hk] at h
        simp only [Bool.and_eq_true, Bool.not_eq_true', decide_eq_false_iff_not] at r3
        have : orF (fun r => decide (A 22 r = nI j) && bt (wr r) d) c = true := (orF_iff _ c).mpr ⟨r, r1, r2, by rw [decide_eq_true j3, ew r (by omega), r3.2]; rfl⟩
        rw [this] at h
        have : ¬ j = i + 1 := fun w => r3.1 (by rw [j3, w])
        rw [decide_eq_false this] at h
        cases h
      · intro h j hj
        rw [b_not _ (i + 1) (by omega) hj, cbF_bit hj c hk]
        by_cases e : j = i + 1
        · rw [decide_eq_true e]; exact Bool.and_false _
        · rw [decide_eq_false e, Bool.not_false, Bool.and_true]
          rw [← Bool.not_eq_true, orF_iff]
          rintro ⟨r, r1, r2, r3⟩
          simp only [Bool.and_eq_true, decide_eq_true_eq] at r3
          refine h ⟨r, r1, r2, ?_⟩
          rw [← ew r (by omega), r3.2, r3.1, decide_eq_false (fun w => e ((nI_eq (by omega) (by omega)).mp w))]
          rfl
    have mi := mcross_in M hc d hd x (nI (i + 1)) (D_M_cross_34 f) c 0 5000 (by omega) (by omega)
    have mi : D_M_cross_48 (D_M_cross_34 f) 5000 20 (nI d) x (nI (i + 1)) 0 0 1 h1 = _ := mi
    simp only [D_U_copiesAcross_80, D_U_copiesAcross_102, D_U_copiesAcross_121, D_M_cross_34, if_neg g4, mi, isIn_eq _ (i + 1) (show i + 1 < 32 by omega), xb1_some, w01i, e1, e2, nI_1]
    cases orF (fun r => decide (A 22 r = nI (i + 1)) && bt (A 25 d) r) c <;> cases orF (fun r => !decide (A 22 r = nI (i + 1)) && bt (A 26 d) r) c
    · obtain ⟨v, v1, v2⟩ := ih (i + 1) f x (by omega) (by omega)
      exact ⟨v, v1, by rw [show x + b2i (false && false) = x from Int32.add_zero x]; exact v2⟩
    · obtain ⟨v, v1, v2⟩ := ih (i + 1) f x (by omega) (by omega)
      exact ⟨v, v1, by rw [show x + b2i (false && true) = x from Int32.add_zero x]; exact v2⟩
    · obtain ⟨v, v1, v2⟩ := ih (i + 1) f x (by omega) (by omega)
      exact ⟨v, v1, by rw [show x + b2i (true && false) = x from Int32.add_zero x]; exact v2⟩
    · obtain ⟨v, v1, v2⟩ := ih (i + 1) f (x + 1) (by omega) (by omega)
      exact ⟨v, v1, v2⟩
end Cr
theorem op_cross {m n : Nat} {h : XH} (I : Inv m n h) (x : Int32) : ∃ v h', X_T_cross 1 x h = some v ∧ X_M_cross 20 x h = some (v, h') ∧ Inv m n h' := by
  obtain ⟨A, PT, cd, c, tc, kc, B, bl, bu, C, hn, hB, RU, RG, RD, RK, RB, RZ⟩ := I
  have C1 := C.code
  have M1 := C1.2.2.2.1
  have I1 : Inv m n (va_up h 20 (mO 0 c (nI tc) bu (nI B))) := ⟨A, PT, 0, c, tc, kc, B, bl, bu, C1, hn, hB, RU, RG, RD, RK, RB, RZ⟩
  unfold X_T_cross D_T_cross_0 X_M_cross D_M_cross_0
  have w1 : ∀ g : XH, X_M_isIn x.toInt64 1 20 g = some (if 1 ≤ x ∧ x ≤ 20 then 1 else 0) := fun g => misIn32 x 1 20 1 20 rfl rfl g
  simp only [C.1.b, C.2.2.2.1.code0, xb1_some, M1.gbu, isDatum_eq, w1, w01i]
  by_cases q : 1 ≤ x ∧ x ≤ 20
  · simp only [if_neg (fun z => z q : ¬ ¬ (1 ≤ x ∧ x ≤ 20))]
    rcases built_cases C RB with ⟨rfl, rfl⟩ | ⟨p, T, S, W, K, Q, rfl, rfl, b2, P, bw, pl, bk, al⟩
    · exact ⟨-3, _, rfl, rfl, I1⟩
    · simp only [xq_some, if_neg (show ¬ (1 : Int32) = 0 by decide), C.1.u, xb1_some, C.2.1.i, xchk_true]
      obtain ⟨d, d1, d2, rfl⟩ := in_rng (c := 20) (by decide) q
      have l1 := cross_sets C.2.1 RU.1 d (by omega) c 0 5000 (by omega) (by have := RU.1; omega)
      have l1 : X_U_copiesAcross 2 (nI d) h = _ := l1
      rw [← RU.2.2.1] at l1
      obtain ⟨v, v1, v2⟩ := cross_loop (h := h) M1 RU.1 (fun r r1 r2 => by rw [RU.2.2.1]; exact (RU.2.2.2.2.2 r r1 r2).1) d d2 (rd := A 6) (wr := A 7) (fun r hr => (RD.1 r d hr d1 d2).1) (fun r hr => (RD.1 r d hr d1 d2).2) 4 0 5000 0 (by omega) (by omega)
      have v1 : D_U_copiesAcross_80 5000 (cbF (A 22) (A 6) d c) (cbF (A 22) (A 7) d c) 0 1 h = some v := v1
      rw [v1] at l1
      rw [l1, xb1_some]
      exact ⟨v, _, rfl, v2, I1⟩
  · simp only [if_pos q]
    exact ⟨-2, _, rfl, rfl, I1⟩

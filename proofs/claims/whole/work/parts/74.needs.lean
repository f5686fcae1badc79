/-! needs(a, b, delayed) -/
theorem in_rng {x : Int32} {c : Nat} (hc : c < 2 ^ 31) (h : 1 ≤ x ∧ x ≤ nI c) : ∃ k, 1 ≤ k ∧ k ≤ c ∧ x = nI k := by
  obtain ⟨k, k1, k2⟩ := p_rng hc (x := x) ⟨by
    have := h.1
    rw [Int32.le_iff_toInt_le] at this ⊢
    have e1 : (1 : Int32).toInt = 1 := by decide
    have e0 : (0 : Int32).toInt = 0 := by decide
    omega, h.2⟩
  refine ⟨k, ?_, k1, k2⟩
  rcases Nat.eq_zero_or_pos k with q | q
  · subst q
    rw [k2] at h
    exact absurd h.1 (by decide)
  · exact q
theorem sh_bit {n x : Nat} (hn : n < 32) : bt ((1 : Int32) <<< (nI n &&& 31)) x = decide (x = n) := by
  rcases Nat.lt_or_ge x 32 with h | h
  · exact b_sh n hn h
  · rw [b_big h, decide_eq_false (by omega)]
/-- rows other than those of a list stay -/
def RelAll (A : Nat → Nat → Int32) (PT : Nat → Nat) (c tc kc B : Nat) (bl : Option Nat) (bu : Int32) : Prop := RelU A c ∧ RelG A c tc ∧ RelD A c ∧ RelK A PT c kc B ∧ RelB A PT c kc bl bu ∧ RelZ A c
theorem op_needs {m n : Nat} {h : XH} (I : Inv m n h) (x y z : Int32) : ∃ v h1 h', X_T_needs 1 x y z h = some (v, h1) ∧ xis h1 4 20 = true ∧ X_M_needs 20 x y z h1 = some (v, h') ∧ Inv m n h' := by
  obtain ⟨A, PT, cd, c, tc, kc, B, bl, bu, C, hn, hB, RU, RG, RD, RK, RB, RZ⟩ := I
  have C1 := C.code
  have I1 : Inv m n (va_up h 20 (mO 0 c (nI tc) bu (nI B))) := ⟨A, PT, 0, c, tc, kc, B, bl, bu, C1, hn, hB, RU, RG, RD, RK, RB, RZ⟩
  have M0 := C.2.2.2.1
  have M1 := C1.2.2.2.1
  have hc := RU.1
  have G := RG.1
  unfold X_T_needs D_T_needs_0 D_T_needs_22 D_T_needs_60 X_M_needs D_M_needs_0 D_M_needs_21
  rw [C.1.u, xb1_some, C.2.1.i, xchk_true, has_eq C.2.1, xb1_some]
  simp only [w01i]
  by_cases p1 : 1 ≤ x ∧ x ≤ nI c
  rotate_left
  · rw [if_pos p1]
    refine ⟨-1, h, _, rfl, M0.i, ?_, I1⟩
    rw [M0.code0, xb1_some, M1.i, xchk_true, isRunnable_eq M1.mu, xb1_some, if_pos (by rw [if_neg p1])]
  rw [if_neg (fun q => q p1), xb1_some, C.2.1.i, xchk_true, has_eq C.2.1, xb1_some]
  simp only [w01i]
  by_cases p2 : 1 ≤ y ∧ y ≤ nI c
  rotate_left
  · rw [if_pos p2]
    refine ⟨-1, h, _, rfl, M0.i, ?_, I1⟩
    rw [M0.code0, xb1_some, M1.i, xchk_true, isRunnable_eq M1.mu, xb1_some, if_neg (by rw [if_pos p1]; decide), xchk_true, isRunnable_eq M1.mu, xb1_some, if_pos (by rw [if_neg p2])]
  rw [if_neg (fun q => q p2)]
  -- what the reference does behind its checks
  have mk : ∀ (g : XH) (M : CM g A cd c tc bu B) (k : XH → Option (Int32 × XH)), (xb1 (xp g 4 0 20 (.int (0 : Int32))) fun h1 => xchk (xis h1 4 20) <| xb1 (X_M_isRunnable 20 x h1) fun v3 => if v3 = 0 then some ((-1 : Int32), h1) else xchk (xis h1 4 20) <| xb1 (X_M_isRunnable 20 y h1) fun v7 => if v7 = 0 then some ((-1 : Int32), h1) else k h1) = k (va_up g 20 (mO 0 c (nI tc) bu (nI B))) := by
    intro g M k
    have M' := M.code c tc bu B
    rw [M.code0, xb1_some, M'.i, xchk_true, isRunnable_eq M'.mu, xb1_some, if_neg (by rw [if_pos p1]; decide), xchk_true, isRunnable_eq M'.mu, xb1_some, if_neg (by rw [if_pos p2]; decide)]
  have s1 : ∀ g : XH, CT g kc bl → xp g 0 5 1 .null = some (va_up g 1 (.inr (0, [.ref 2, .ref 8, .ref 13, .int (nI kc), .ref 14, va_rf none]))) := fun g H => xp_at H.1 (show 5 < 6 by decide)
  by_cases pz : z = 0
  rotate_left
  · -- delayed
    rw [if_neg pz, s1 h C.1, xb1_some]
    generalize hg1 : va_up h 1 (.inr (0, [.ref 2, .ref 8, .ref 13, .int (nI kc), .ref 14, va_rf none])) = g1
    have f1 : ∀ j, j ≠ 1 → g1 j = h j := fun j hj => by rw [← hg1, up_n hj]
    have Mg : CM g1 A cd c tc bu B := M0.fr (fun j j1 j2 => f1 j (by omega))
    refine ⟨1, g1, va_up g1 20 (mO 0 c (nI tc) 0 (nI B)), rfl, Mg.i, ?_, ?_⟩
    · have e := mk g1 Mg (fun h1 => if z = 0 then xchk (xis h1 4 20) <| xb1 (X_M_measure 20 x h1) fun h12 => xb1 (xgR h12 4 10 20) fun q16 => xb1 (xaI h12 q16 y) fun v17 => if (99 : Int32) ≤ v17 then xb1 (xp h12 4 11 20 (.int (0 : Int32))) fun h20 => xb1 (xgR h20 4 5 20) fun q23 => xb1 (xaI h20 q23 y) fun v24 => xb1 (xaS h20 q23 y (v24 ||| ((1 : Int32) <<< (x &&& 31)))) fun h26 => some ((1 : Int32), h26) else xchk (xis h12 4 20) <| xb1 (X_M_tellRing 20 y h12) fun h28 => some ((0 : Int32), h28) else xb1 (xp h1 4 11 20 (.int (0 : Int32))) fun h31 => some ((1 : Int32), h31))
      refine e.trans ?_
      simp only [if_neg pz]
      have M' := Mg.code c tc bu B
      have s2 : xp (va_up g1 20 (mO 0 c (nI tc) bu (nI B))) 4 11 20 (.int 0) = some (va_up (va_up g1 20 (mO 0 c (nI tc) bu (nI B))) 20 (mO 0 c (nI tc) 0 (nI B))) := xp_at M'.1 (show 11 < 19 by decide)
      rw [s2, xb1_some]
      have e2 : va_up (va_up g1 20 (mO 0 c (nI tc) bu (nI B))) 20 (mO 0 c (nI tc) 0 (nI B)) = va_up g1 20 (mO 0 c (nI tc) 0 (nI B)) := bx_uu _ _ _ _
      rw [e2]
    · refine ⟨A, PT, 0, c, tc, kc, B, none, 0, ⟨⟨by rw [up_n (by decide), ← hg1, up_s], by rw [up_n (by decide), f1 13 (by decide)]; exact C.1.2⟩, C.2.1.fr (fun j j1 j2 => by rw [up_n (by omega), f1 j (by omega)]), C.2.2.1.fr (fun j j1 j2 => by rw [up_n (by omega), f1 j (by omega)]), Mg.code c tc 0 B, fun p hp => (C.2.2.2.2 p hp).fr (fun j j1 j2 => by rcases hp.ge with q | q <;> rw [up_n (by omega), f1 j (by omega)])⟩, hn, hB, RU, RG, RD, RK, RelB.none _ _ _ _, RZ⟩
  rw [if_pos pz, C.1.g, xb1_some, C.2.2.1.i, xchk_true]
  obtain ⟨a, a1, a2, rfl⟩ := in_rng (show c < 2 ^ 31 by omega) p1
  obtain ⟨b, b1, b2, rfl⟩ := in_rng (show c < 2 ^ 31 by omega) p2
  rw [would_eq C.2.2.1 (show a ≤ 24 by omega) (show b ≤ 24 by omega), xb1_some]
  simp only [w01i]
  have ring_iff : (a = b ∨ bt (A 10 a) b = true) ↔ ∃ k, Wk (A 9) k b a := by
    constructor
    · rintro (q | q)
      · exact ⟨0, q.symm⟩
      · obtain ⟨k, w⟩ := (G.2.1 b a (by omega)).mp q
        exact ⟨k + 1, w⟩
    · rintro ⟨k, w⟩
      cases k with
      | zero => exact Or.inl (show b = a from w).symm
      | succ k => exact Or.inr ((G.2.1 b a (by omega)).mpr ⟨k, w⟩)
  by_cases pr : a = b ∨ bt (A 10 a) b = true
  · -- a ring
    obtain ⟨k0, w0⟩ := ring_iff.mp pr
    obtain ⟨d, -, hw, hl⟩ := w0.least
    obtain ⟨p, hp⟩ := path_ex d b hw
    have hd := hw.short G hc ⟨a1, a2⟩
    rw [if_neg (fun q => q pr), xb1_some, C.2.2.1.i, xchk_true]
    obtain ⟨g1, ly', tl', q1, q2, q3, q4⟩ := tell_eq C.2.2.1 G hc (show a ≤ 24 by omega) ⟨b1, b2⟩ (by omega) hw hl hp
    rw [q1, xb1_some]
    have Mg : CM g1 A cd c tc bu B := M0.fr (fun j j1 j2 => q4 j (by omega) (by omega) (by omega))
    have M' := Mg.code c tc bu B
    refine ⟨0, g1, ?_⟩
    have e := mk g1 Mg (fun h1 => if z = 0 then xchk (xis h1 4 20) <| xb1 (X_M_measure 20 (nI a) h1) fun h12 => xb1 (xgR h12 4 10 20) fun q16 => xb1 (xaI h12 q16 (nI b)) fun v17 => if (99 : Int32) ≤ v17 then xb1 (xp h12 4 11 20 (.int (0 : Int32))) fun h20 => xb1 (xgR h20 4 5 20) fun q23 => xb1 (xaI h20 q23 (nI b)) fun v24 => xb1 (xaS h20 q23 (nI b) (v24 ||| ((1 : Int32) <<< (nI a &&& 31)))) fun h26 => some ((1 : Int32), h26) else xchk (xis h12 4 20) <| xb1 (X_M_tellRing 20 (nI b) h12) fun h28 => some ((0 : Int32), h28) else xb1 (xp h1 4 11 20 (.int (0 : Int32))) fun h31 => some ((1 : Int32), h31))
    have eq24 : A 24 = A 9 := RU.2.2.2.2.1
    have MG1 : MG (va_up g1 20 (mO 0 c (nI tc) bu (nI B))) c (A 9) (A 28) := by rw [← eq24]; exact M'.mg
    obtain ⟨g2, A2, F, r1, r2, r3, r4, r5⟩ := measure_eq (a := a) G hc (by omega) MG1
    have Fb := r3 b b1 b2
    have Fb2 := r4 d b b1 b2 a1 a2 hw
    have u20 : g2 20 = mO 0 c (nI tc) bu (nI B) := by rw [r5 20 (by decide)]; exact M'.1
    obtain ⟨g3, R', t1, t2, t3, t4, t5⟩ := mtell_eq G hc ⟨b1, b2⟩ ⟨a1, a2⟩ hw hl hp r3 (fun k w w1 w2 ww => r4 k w w1 w2 a1 a2 ww) u20 r2.2.1 r2.2.2 (R := A 27) (by rw [r5 27 (by decide)]; exact M'.a27)
    have fl : ∀ j, j ≠ 20 → j ≠ 27 → j ≠ 28 → g3 j = g1 j := fun j j0 j1 j2 => by rw [t5 j j0 j1, r5 j j2, up_n j0]
    refine ⟨g3, rfl, Mg.i, e.trans ?_, ?_⟩
    · simp only [if_pos pz]
      have i2 : xis g2 4 20 = true := xis_at u20
      rw [M'.i, xchk_true, r1, xb1_some, r2.f, xb1_some, xaI_at r2.2.2 (show b < 25 by omega) (by decide), xb1_some, Fb.1]
      rw [if_neg (show ¬ (99 : Int32) ≤ nI (F b) from nI_ge (b := 99) (by omega) (by omega)), i2, xchk_true, t1, xb1_some]
    · obtain ⟨A', hA'⟩ : ∃ A' : Nat → Nat → Int32, A' = fun j => if j = 11 then ly' else if j = 12 then tl' else if j = 27 then R' else if j = 28 then A2 else A j := ⟨_, rfl⟩
      have k11 : A' 11 = ly' := by rw [hA']; rfl
      have k12 : A' 12 = tl' := by rw [hA']; rfl
      have k27 : A' 27 = R' := by rw [hA']; rfl
      have k28 : A' 28 = A2 := by rw [hA']; rfl
      have kn : ∀ j, j ≠ 11 → j ≠ 12 → j ≠ 27 → j ≠ 28 → A' j = A j := fun j j1 j2 j3 j4 => by rw [hA']; simp only [if_neg j1, if_neg j2, if_neg j3, if_neg j4]
      have fq : ∀ j, 20 < j → j ≤ 34 → j ≠ 27 → j ≠ 28 → g3 j = h j := fun j j0 j1 j2 j3 => by rw [fl j (by omega) j2 j3, q4 j (by omega) (by omega) (by omega)]
      refine ⟨A', PT, 0, c, d + 1, kc, B, bl, bu, ⟨C.1.fr (fun j hj => by rw [fl j (by omega) (by omega) (by omega), q4 j (by omega) (by omega) (by omega)]), ?_, ?_, ?_, fun p hp => ?_⟩, hn, hB, ?_, ?_, ?_, RK.fr (Nat.le_refl c) (fun r hr => ⟨by rw [kn 3 (by decide) (by decide) (by decide) (by decide)], by rw [kn 4 (by decide) (by decide) (by decide) (by decide)]⟩) (fun j hj => kn j (by omega) (by omega) (by omega) (by omega)), ?_, ?_⟩
      · rw [kn 3 (by decide) (by decide) (by decide) (by decide), kn 4 (by decide) (by decide) (by decide) (by decide), kn 5 (by decide) (by decide) (by decide) (by decide), kn 6 (by decide) (by decide) (by decide) (by decide), kn 7 (by decide) (by decide) (by decide) (by decide)]
        exact C.2.1.fr (fun j j1 j2 => by rw [fl j (by omega) (by omega) (by omega), q4 j (by omega) (by omega) (by omega)])
      · rw [kn 9 (by decide) (by decide) (by decide) (by decide), kn 10 (by decide) (by decide) (by decide) (by decide), k11, k12]
        exact q2.fr (fun j j1 j2 => fl j (by omega) (by omega) (by omega))
      · have kk : ∀ j, 20 < j → j ≤ 34 → j ≠ 27 → j ≠ 28 → A' j = A j := fun j j0 j1 j2 j3 => kn j (by omega) (by omega) j2 j3
        exact ⟨t2, by rw [fq 21 (by decide) (by decide) (by decide) (by decide), kk 21 (by decide) (by decide) (by decide) (by decide)]; exact M0.a21, by rw [fq 22 (by decide) (by decide) (by decide) (by decide), kk 22 (by decide) (by decide) (by decide) (by decide)]; exact M0.a22, by rw [fq 23 (by decide) (by decide) (by decide) (by decide), kk 23 (by decide) (by decide) (by decide) (by decide)]; exact M0.a23, by rw [fq 24 (by decide) (by decide) (by decide) (by decide), kk 24 (by decide) (by decide) (by decide) (by decide)]; exact M0.a24, by rw [fq 25 (by decide) (by decide) (by decide) (by decide), kk 25 (by decide) (by decide) (by decide) (by decide)]; exact M0.a25, by rw [fq 26 (by decide) (by decide) (by decide) (by decide), kk 26 (by decide) (by decide) (by decide) (by decide)]; exact M0.a26, by rw [k27]; exact t3, by rw [k28, t5 28 (by decide) (by decide)]; exact r2.2.2, by rw [fq 29 (by decide) (by decide) (by decide) (by decide), kk 29 (by decide) (by decide) (by decide) (by decide)]; exact M0.a29, by rw [fq 30 (by decide) (by decide) (by decide) (by decide), kk 30 (by decide) (by decide) (by decide) (by decide)]; exact M0.a30, by rw [fq 31 (by decide) (by decide) (by decide) (by decide), kk 31 (by decide) (by decide) (by decide) (by decide)]; exact M0.a31, by rw [fq 32 (by decide) (by decide) (by decide) (by decide), kk 32 (by decide) (by decide) (by decide) (by decide)]; exact M0.a32, by rw [fq 33 (by decide) (by decide) (by decide) (by decide), kk 33 (by decide) (by decide) (by decide) (by decide)]; exact M0.a33, by rw [fq 34 (by decide) (by decide) (by decide) (by decide), kk 34 (by decide) (by decide) (by decide) (by decide)]; exact M0.a34⟩
      · have hp14 := hp.ge
        rw [kn (p + 1) (by omega) (by omega) (by omega) (by omega), kn (p + 2) (by omega) (by omega) (by omega) (by omega), kn (p + 3) (by omega) (by omega) (by omega) (by omega), kn (p + 4) (by omega) (by omega) (by omega) (by omega), kn (p + 5) (by omega) (by omega) (by omega) (by omega)]
        exact (C.2.2.2.2 p hp).fr (fun j j1 j2 => by rw [fl j (by omega) (by omega) (by omega), q4 j (by omega) (by omega) (by omega)])
      · unfold RelU
        rw [kn 3 (by decide) (by decide) (by decide) (by decide), kn 4 (by decide) (by decide) (by decide) (by decide), kn 5 (by decide) (by decide) (by decide) (by decide), kn 9 (by decide) (by decide) (by decide) (by decide), kn 21 (by decide) (by decide) (by decide) (by decide), kn 22 (by decide) (by decide) (by decide) (by decide), kn 23 (by decide) (by decide) (by decide) (by decide), kn 24 (by decide) (by decide) (by decide) (by decide)]
        exact RU
      · unfold RelG
        rw [kn 9 (by decide) (by decide) (by decide) (by decide), kn 10 (by decide) (by decide) (by decide) (by decide), k12, k27]
        exact ⟨G, by omega, fun j hj => by rw [q3 j (by omega), t4 j (by omega)]⟩
      · unfold RelD
        rw [kn 6 (by decide) (by decide) (by decide) (by decide), kn 7 (by decide) (by decide) (by decide) (by decide), kn 25 (by decide) (by decide) (by decide) (by decide), kn 26 (by decide) (by decide) (by decide) (by decide)]
        exact RD
      · refine ⟨RB.1, fun q hq => ?_⟩
        obtain ⟨u1, u2, u3⟩ := RB.2 q hq
        have hp14 := u2.ge
        refine ⟨u1, u2, ?_⟩
        rw [kn 3 (by decide) (by decide) (by decide) (by decide), kn 4 (by decide) (by decide) (by decide) (by decide), kn (q + 1) (by omega) (by omega) (by omega) (by omega), kn (q + 2) (by omega) (by omega) (by omega) (by omega), kn (q + 3) (by omega) (by omega) (by omega) (by omega), kn (q + 4) (by omega) (by omega) (by omega) (by omega), kn (q + 5) (by omega) (by omega) (by omega) (by omega), kn 29 (by decide) (by decide) (by decide) (by decide), kn 30 (by decide) (by decide) (by decide) (by decide), kn 31 (by decide) (by decide) (by decide) (by decide), kn 32 (by decide) (by decide) (by decide) (by decide), kn 33 (by decide) (by decide) (by decide) (by decide), kn 34 (by decide) (by decide) (by decide) (by decide)]
        exact u3
      · unfold RelZ
        rw [kn 15 (by decide) (by decide) (by decide) (by decide), kn 19 (by decide) (by decide) (by decide) (by decide)]
        exact RZ
  · -- a new need
    rw [if_pos pr, xb1_some, C.2.2.1.i, xchk_true]
    have hno : ∀ k, ¬ Wk (A 9) k b a := fun k w => pr (ring_iff.mpr ⟨k, w⟩)
    obtain ⟨g0, q1, q2, q3⟩ := add_eq C.2.2.1 (show a ≤ 24 by omega) (show b ≤ 24 by omega)
    have T0 : CT g0 kc bl := C.1.fr (fun j hj => q3 j (by omega) (by omega))
    rw [q1, xb1_some, s1 g0 T0, xb1_some]
    generalize hg1 : va_up g0 1 (.inr (0, [.ref 2, .ref 8, .ref 13, .int (nI kc), .ref 14, va_rf none])) = g1
    have f1 : ∀ j, j ≠ 1 → g1 j = g0 j := fun j hj => by rw [← hg1, up_n hj]
    have f01 : ∀ j, j ≠ 1 → j ≠ 9 → j ≠ 10 → g1 j = h j := fun j j1 j2 j3 => by rw [f1 j j1, q3 j j2 j3]
    have Mg : CM g1 A cd c tc bu B := M0.fr (fun j j1 j2 => f01 j (by omega) (by omega) (by omega))
    have M' := Mg.code c tc bu B
    refine ⟨1, g1, ?_⟩
    have e := mk g1 Mg (fun h1 => if z = 0 then xchk (xis h1 4 20) <| xb1 (X_M_measure 20 (nI a) h1) fun h12 => xb1 (xgR h12 4 10 20) fun q16 => xb1 (xaI h12 q16 (nI b)) fun v17 => if (99 : Int32) ≤ v17 then xb1 (xp h12 4 11 20 (.int (0 : Int32))) fun h20 => xb1 (xgR h20 4 5 20) fun q23 => xb1 (xaI h20 q23 (nI b)) fun v24 => xb1 (xaS h20 q23 (nI b) (v24 ||| ((1 : Int32) <<< (nI a &&& 31)))) fun h26 => some ((1 : Int32), h26) else xchk (xis h12 4 20) <| xb1 (X_M_tellRing 20 (nI b) h12) fun h28 => some ((0 : Int32), h28) else xb1 (xp h1 4 11 20 (.int (0 : Int32))) fun h31 => some ((1 : Int32), h31))
    have eq24 : A 24 = A 9 := RU.2.2.2.2.1
    have MG1 : MG (va_up g1 20 (mO 0 c (nI tc) bu (nI B))) c (A 9) (A 28) := by rw [← eq24]; exact M'.mg
    obtain ⟨g2, A2, F, r1, r2, r3, r4, r5⟩ := measure_eq (a := a) G hc (by omega) MG1
    have Fb := r3 b b1 b2
    have Fb99 : F b = 99 := by
      rcases Nat.lt_or_ge (F b) 99 with q | q
      · exact absurd (Fb.2.2 q) (hno _)
      · omega
    have u20 : g2 20 = mO 0 c (nI tc) bu (nI B) := by rw [r5 20 (by decide)]; exact M'.1
    have s2 : xp g2 4 11 20 (.int 0) = some (va_up g2 20 (mO 0 c (nI tc) 0 (nI B))) := xp_at u20 (show 11 < 19 by decide)
    generalize hg3 : va_up g2 20 (mO 0 c (nI tc) 0 (nI B)) = g3 at s2
    have v20 : g3 20 = mO 0 c (nI tc) 0 (nI B) := by rw [← hg3, up_s]
    have v24 : g3 24 = .inl (.int, (25, .inl (A 9))) := by rw [← hg3, up_n (by decide)]; exact r2.2.1
    generalize hg4 : va_up g3 24 (.inl (.int, (25, .inl (upd (A 9) b (A 9 b ||| ((1 : Int32) <<< (nI a &&& 31))))))) = g4
    have fl : ∀ j, j ≠ 20 → j ≠ 24 → j ≠ 28 → g4 j = g1 j := fun j j0 j1 j2 => by rw [← hg4, up_n j1, ← hg3, up_n j0, r5 j j2, up_n j0]
    refine ⟨g4, rfl, Mg.i, e.trans ?_, ?_⟩
    · simp only [if_pos pz]
      rw [M'.i, xchk_true, r1, xb1_some, r2.f, xb1_some, xaI_at r2.2.2 (show b < 25 by omega) (by decide), xb1_some, Fb.1, Fb99]
      rw [if_pos (show (99 : Int32) ≤ nI 99 by decide), s2, xb1_some, xgR_at (k := 5) v20 rfl, xb1_some, xaI_at v24 (show b < 25 by omega) (by decide), xb1_some, xaS_at v24 (show b < 25 by omega) (by decide), xb1_some, hg4]
    · obtain ⟨A', hA'⟩ : ∃ A' : Nat → Nat → Int32, A' = fun j => if j = 9 ∨ j = 24 then upd (A 9) b (A 9 b ||| ((1 : Int32) <<< (nI a &&& 31))) else if j = 10 then abF (A 10) b (A 10 a ||| ((1 : Int32) <<< (nI a &&& 31))) 25 else if j = 28 then A2 else A j := ⟨_, rfl⟩
      have k9 : A' 9 = upd (A 9) b (A 9 b ||| ((1 : Int32) <<< (nI a &&& 31))) := by rw [hA']; rfl
      have k24 : A' 24 = upd (A 9) b (A 9 b ||| ((1 : Int32) <<< (nI a &&& 31))) := by rw [hA']; rfl
      have k10 : A' 10 = abF (A 10) b (A 10 a ||| ((1 : Int32) <<< (nI a &&& 31))) 25 := by rw [hA']; rfl
      have k28 : A' 28 = A2 := by rw [hA']; rfl
      have kn : ∀ j, ¬ (j = 9 ∨ j = 24) → j ≠ 10 → j ≠ 28 → A' j = A j := fun j j1 j2 j3 => by rw [hA']; simp only [if_neg j1, if_neg j2, if_neg j3]
      have fq : ∀ j, 20 < j → j ≤ 34 → j ≠ 24 → j ≠ 28 → g4 j = h j := fun j j0 j1 j2 j3 => by rw [fl j (by omega) j2 j3, f01 j (by omega) (by omega) (by omega)]
      refine ⟨A', PT, 0, c, tc, kc, B, none, 0, ⟨⟨by rw [fl 1 (by decide) (by decide) (by decide), ← hg1, up_s], by rw [fl 13 (by decide) (by decide) (by decide), f01 13 (by decide) (by decide) (by decide)]; exact C.1.2⟩, ?_, ?_, ?_, fun p hp => ?_⟩, hn, hB, ?_, ?_, ?_, RK.fr (Nat.le_refl c) (fun r hr => ⟨by rw [kn 3 (by decide) (by decide) (by decide)], by rw [kn 4 (by decide) (by decide) (by decide)]⟩) (fun j hj => kn j (by omega) (by omega) (by omega)), RelB.none _ _ _ _, ?_⟩
      · rw [kn 3 (by decide) (by decide) (by decide), kn 4 (by decide) (by decide) (by decide), kn 5 (by decide) (by decide) (by decide), kn 6 (by decide) (by decide) (by decide), kn 7 (by decide) (by decide) (by decide)]
        exact C.2.1.fr (fun j j1 j2 => by rw [fl j (by omega) (by omega) (by omega), f01 j (by omega) (by omega) (by omega)])
      · rw [k9, k10, kn 11 (by decide) (by decide) (by decide), kn 12 (by decide) (by decide) (by decide)]
        exact q2.fr (fun j j1 j2 => by rw [fl j (by omega) (by omega) (by omega), f1 j (by omega)])
      · have kk : ∀ j, 20 < j → j ≤ 34 → j ≠ 24 → j ≠ 28 → A' j = A j := fun j j0 j1 j2 j3 => kn j (by omega) (by omega) j3
        exact ⟨by rw [← hg4, up_n (by decide)]; exact v20, by rw [fq 21 (by decide) (by decide) (by decide) (by decide), kk 21 (by decide) (by decide) (by decide) (by decide)]; exact M0.a21, by rw [fq 22 (by decide) (by decide) (by decide) (by decide), kk 22 (by decide) (by decide) (by decide) (by decide)]; exact M0.a22, by rw [fq 23 (by decide) (by decide) (by decide) (by decide), kk 23 (by decide) (by decide) (by decide) (by decide)]; exact M0.a23, by rw [k24, ← hg4, up_s], by rw [fq 25 (by decide) (by decide) (by decide) (by decide), kk 25 (by decide) (by decide) (by decide) (by decide)]; exact M0.a25, by rw [fq 26 (by decide) (by decide) (by decide) (by decide), kk 26 (by decide) (by decide) (by decide) (by decide)]; exact M0.a26, by rw [fq 27 (by decide) (by decide) (by decide) (by decide), kk 27 (by decide) (by decide) (by decide) (by decide)]; exact M0.a27, by rw [k28, ← hg4, up_n (by decide), ← hg3, up_n (by decide)]; exact r2.2.2, by rw [fq 29 (by decide) (by decide) (by decide) (by decide), kk 29 (by decide) (by decide) (by decide) (by decide)]; exact M0.a29, by rw [fq 30 (by decide) (by decide) (by decide) (by decide), kk 30 (by decide) (by decide) (by decide) (by decide)]; exact M0.a30, by rw [fq 31 (by decide) (by decide) (by decide) (by decide), kk 31 (by decide) (by decide) (by decide) (by decide)]; exact M0.a31, by rw [fq 32 (by decide) (by decide) (by decide) (by decide), kk 32 (by decide) (by decide) (by decide) (by decide)]; exact M0.a32, by rw [fq 33 (by decide) (by decide) (by decide) (by decide), kk 33 (by decide) (by decide) (by decide) (by decide)]; exact M0.a33, by rw [fq 34 (by decide) (by decide) (by decide) (by decide), kk 34 (by decide) (by decide) (by decide) (by decide)]; exact M0.a34⟩
      · have hp14 := hp.ge
        rw [kn (p + 1) (by omega) (by omega) (by omega), kn (p + 2) (by omega) (by omega) (by omega), kn (p + 3) (by omega) (by omega) (by omega), kn (p + 4) (by omega) (by omega) (by omega), kn (p + 5) (by omega) (by omega) (by omega)]
        exact (C.2.2.2.2 p hp).fr (fun j j1 j2 => by rw [fl j (by omega) (by omega) (by omega), f01 j (by omega) (by omega) (by omega)])
      · unfold RelU
        rw [kn 3 (by decide) (by decide) (by decide), kn 4 (by decide) (by decide) (by decide), kn 5 (by decide) (by decide) (by decide), k9, kn 21 (by decide) (by decide) (by decide), kn 22 (by decide) (by decide) (by decide), kn 23 (by decide) (by decide) (by decide), k24]
        exact ⟨RU.1, RU.2.1, RU.2.2.1, RU.2.2.2.1, rfl, RU.2.2.2.2.2⟩
      · unfold RelG
        rw [k9, k10, kn 12 (by decide) (by decide) (by decide), kn 27 (by decide) (by decide) (by decide)]
        refine ⟨G.add hc ⟨a1, a2⟩ ⟨b1, b2⟩ hno _ _ (fun yy xx => ?_) (fun yy xx hy => ?_), RG.2⟩
        · by_cases ey : yy = b
          · subst ey
            rw [upd_s, b_or, sh_bit (by omega)]
            simp
          · rw [upd_n ey]
            simp [ey]
        · unfold abF
          by_cases ey : 1 ≤ yy ∧ yy < 25 ∧ (yy = b ∨ bt (A 10 yy) b = true)
          · rw [if_pos ey, b_or, b_or, sh_bit (by omega)]
            rcases ey.2.2 with q | q
            · simp [q]
            · simp [q]
          · rw [if_neg ey]
            have n1 : yy ≠ b := fun q => ey ⟨by omega, by omega, Or.inl q⟩
            have n2 : ¬ bt (A 10 yy) b = true := fun q => by
              obtain ⟨k, w⟩ := (G.2.1 b yy (by omega)).mp q
              have := Wk.rng G.1 w
              exact ey ⟨by omega, by omega, Or.inr q⟩
            have n2 : bt (A 10 yy) b = false := by simpa using n2
            simp [n1, n2]
      · unfold RelD
        rw [kn 6 (by decide) (by decide) (by decide), kn 7 (by decide) (by decide) (by decide), kn 25 (by decide) (by decide) (by decide), kn 26 (by decide) (by decide) (by decide)]
        exact RD
      · unfold RelZ
        rw [kn 15 (by decide) (by decide) (by decide), kn 19 (by decide) (by decide) (by decide)]
        exact RZ

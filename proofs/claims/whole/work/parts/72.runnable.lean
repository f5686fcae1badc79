/-! runnable(period, core, steps) -/
theorem BW.grow {c c' : Nat} {pe co pe' co' : Nat → Int32} {T : Nat} {S W : Nat → Nat} {K Q : Nat → Int32} (H : BW c pe co T S W K Q) (hc : c ≤ c') (e : ∀ r, r ≤ c → pe' r = pe r ∧ co' r = co r) : BW c' pe' co' T S W K Q := by
  obtain ⟨h1, h2, h3, h4, h5, h6⟩ := H
  refine ⟨h1, h2, h3, h4, fun t i a b d => ?_, h6⟩
  obtain ⟨q1, q2, q3, q4⟩ := h5 t i a b d
  obtain ⟨e1, e2⟩ := e (W i) q2
  exact ⟨q1, by omega, by rw [e2]; exact q3, by rw [e1]; exact q4⟩
theorem RelK.fr {A A' : Nat → Nat → Int32} {PT : Nat → Nat} {c c' kc B : Nat} (R : RelK A PT c kc B) (hc : c ≤ c') (e3 : ∀ r, r ≤ c → A' 3 r = A 3 r ∧ A' 4 r = A 4 r) (eA : ∀ j, 29 ≤ j → A' j = A j) : RelK A' PT c' kc B := by
  refine ⟨R.1, fun i hi => ?_⟩
  obtain ⟨T, S, W, K, Q, b1, b2, b3⟩ := R.2 i hi
  refine ⟨T, S, W, K, Q, b1.grow hc e3, ?_, ?_⟩
  · rw [eA _ (by omega), eA _ (by omega), eA _ (by omega), eA _ (by omega), eA _ (by omega)]; exact b2
  · rw [eA 29 (by omega), eA 30 (by omega), eA 31 (by omega), eA 32 (by omega), eA 33 (by omega)]; exact b3
theorem GI.grow {c c' : Nat} {tb ab : Nat → Int32} (G : GI c tb ab) (hc : c ≤ c') : GI c' tb ab := ⟨fun a b h => by obtain ⟨q1, q2, q3, q4⟩ := G.1 a b h; exact ⟨q1, by omega, q3, by omega⟩, G.2⟩
theorem RelB.none (A : Nat → Nat → Int32) (PT : Nat → Nat) (c kc : Nat) : RelB A PT c kc none 0 := ⟨fun _ => rfl, fun q h => by cases h⟩
theorem isFull_eq {h : XH} {c : Nat} {pe co sp rd wr : Nat → Int32} (H : CU h c pe co sp rd wr) (hc : c ≤ 24) : X_U_isFull 2 h = some (if c < 24 then 0 else 1) := by
  unfold X_U_isFull D_U_isFull_0 D_U_isFull_14
  rw [H.c, xb1_some]
  by_cases q : c < 24
  · rw [if_pos (show nI c < (24 : Int32) from nI_lt (b := 24) q (by omega)), if_pos q]; rfl
  · rw [if_neg (show ¬ nI c < (24 : Int32) from nI_nlt (b := 24) (by omega) (by omega)), if_neg q]; rfl
/-- the heap behind Runnables.add -/
def uAdd (h : XH) (c : Nat) (pe co sp : Nat → Int32) (x y z : Int32) : XH := va_up (va_up (va_up (va_up h 2 (.inr (1, [.int (nI (c + 1)), .ref 3, .ref 4, .ref 5, .ref 6, .ref 7]))) 3 (.inl (.int, (25, .inl (upd pe (c + 1) x))))) 4 (.inl (.int, (25, .inl (upd co (c + 1) y))))) 5 (.inl (.int, (25, .inl (upd sp (c + 1) z))))
theorem uadd_eq {h : XH} {c : Nat} {pe co sp rd wr : Nat → Int32} (H : CU h c pe co sp rd wr) (hc : c < 24) (x y z : Int32) : X_U_add 2 x y z h = some (nI (c + 1), uAdd h c pe co sp x y z) ∧ CU (uAdd h c pe co sp x y z) (c + 1) (upd pe (c + 1) x) (upd co (c + 1) y) (upd sp (c + 1) z) rd wr := by
  obtain ⟨a0, a1, a2, a3, a4, a5⟩ := H
  have H' : CU (uAdd h c pe co sp x y z) (c + 1) (upd pe (c + 1) x) (upd co (c + 1) y) (upd sp (c + 1) z) rd wr := by
    unfold uAdd
    exact ⟨by rw [up_n (by decide), up_n (by decide), up_n (by decide), up_s], by rw [up_n (by decide), up_n (by decide), up_s], by rw [up_n (by decide), up_s], up_s, by rw [up_n (by decide), up_n (by decide), up_n (by decide), up_n (by decide)]; exact a4, by rw [up_n (by decide), up_n (by decide), up_n (by decide), up_n (by decide)]; exact a5⟩
  refine ⟨?_, H'⟩
  unfold X_U_add D_U_add_0
  have s1 : xp h 1 0 2 (.int (nI (c + 1))) = some (va_up h 2 (.inr (1, [.int (nI (c + 1)), .ref 3, .ref 4, .ref 5, .ref 6, .ref 7]))) := xp_at a0 (show 0 < 6 by decide)
  rw [xgI_at (k := 0) a0 rfl, xb1_some, nI_1, s1, xb1_some]
  generalize hg1 : va_up h 2 (.inr (1, [.int (nI (c + 1)), .ref 3, .ref 4, .ref 5, .ref 6, .ref 7])) = g1
  have b0 : g1 2 = .inr (1, [.int (nI (c + 1)), .ref 3, .ref 4, .ref 5, .ref 6, .ref 7]) := by rw [← hg1, up_s]
  have b1 : g1 3 = .inl (.int, (25, .inl pe)) := by rw [← hg1, up_n (by decide)]; exact a1
  have b2 : g1 4 = .inl (.int, (25, .inl co)) := by rw [← hg1, up_n (by decide)]; exact a2
  have b3 : g1 5 = .inl (.int, (25, .inl sp)) := by rw [← hg1, up_n (by decide)]; exact a3
  rw [xgR_at (k := 1) b0 rfl, xb1_some, xgI_at (k := 0) b0 rfl, xb1_some, xaS_at b1 (show c + 1 < 25 by omega) (by decide), xb1_some]
  generalize hg2 : va_up g1 3 (.inl (.int, (25, .inl (upd pe (c + 1) x)))) = g2
  have d0 : g2 2 = .inr (1, [.int (nI (c + 1)), .ref 3, .ref 4, .ref 5, .ref 6, .ref 7]) := by rw [← hg2, up_n (by decide)]; exact b0
  have d2 : g2 4 = .inl (.int, (25, .inl co)) := by rw [← hg2, up_n (by decide)]; exact b2
  have d3 : g2 5 = .inl (.int, (25, .inl sp)) := by rw [← hg2, up_n (by decide)]; exact b3
  rw [xgR_at (k := 2) d0 rfl, xb1_some, xgI_at (k := 0) d0 rfl, xb1_some, xaS_at d2 (show c + 1 < 25 by omega) (by decide), xb1_some]
  generalize hg3 : va_up g2 4 (.inl (.int, (25, .inl (upd co (c + 1) y)))) = g3
  have f0 : g3 2 = .inr (1, [.int (nI (c + 1)), .ref 3, .ref 4, .ref 5, .ref 6, .ref 7]) := by rw [← hg3, up_n (by decide)]; exact d0
  have f3 : g3 5 = .inl (.int, (25, .inl sp)) := by rw [← hg3, up_n (by decide)]; exact d3
  rw [xgR_at (k := 3) f0 rfl, xb1_some, xgI_at (k := 0) f0 rfl, xb1_some, xaS_at f3 (show c + 1 < 25 by omega) (by decide), xb1_some]
  have e9 : va_up g3 5 (.inl (.int, (25, .inl (upd sp (c + 1) z)))) = uAdd h c pe co sp x y z := by
    unfold uAdd
    rw [hg1, hg2, hg3]
  rw [e9, xgI_at (k := 0) H'.1 rfl, xb1_some]
theorem p_rng {x : Int32} {n : Nat} (hn : n < 2 ^ 31) (h : 0 ≤ x ∧ x ≤ nI n) : ∃ k, k ≤ n ∧ x = nI k := by
  rcases i_cases x with q | ⟨k, hk, rfl⟩
  · exfalso
    have h1 := h.1
    rw [Int32.le_iff_toInt_le] at h1
    rw [Int32.lt_iff_toInt_lt] at q
    omega
  · exact ⟨k, (nI_leI hk hn).mp h.2, rfl⟩
theorem op_runnable {m n : Nat} {h : XH} (I : Inv m n h) (x y z : Int32) : ∃ v h1 h', X_T_runnable 1 x y z h = some (v, h1) ∧ xis h1 4 20 = true ∧ X_M_runnable 20 x y z h1 = some (v, h') ∧ Inv m n h' := by
  obtain ⟨A, PT, cd, c, tc, kc, B, bl, bu, C, hn, hB, RU, RG, RD, RK, RB, RZ⟩ := I
  have C1 := C.code
  have I1 : Inv m n (va_up h 20 (mO 0 c (nI tc) bu (nI B))) := ⟨A, PT, 0, c, tc, kc, B, bl, bu, C1, hn, hB, RU, RG, RD, RK, RB, RZ⟩
  have M0 := C.2.2.2.1
  have M1 := C1.2.2.2.1
  unfold X_T_runnable D_T_runnable_0 D_T_runnable_30 X_M_runnable D_M_runnable_0 D_M_runnable_41
  have w1 : ∀ g : XH, X_M_isIn x.toInt64 0 1000 g = some (if 0 ≤ x ∧ x ≤ 1000 then 1 else 0) := fun g => misIn32 x 0 1000 0 1000 rfl rfl g
  have w2 : ∀ g : XH, X_M_isIn y.toInt64 1 4 g = some (if 1 ≤ y ∧ y ≤ 4 then 1 else 0) := fun g => misIn32 y 1 4 1 4 rfl rfl g
  have w3 : ∀ g : XH, X_M_isIn z.toInt64 0 100000 g = some (if 0 ≤ z ∧ z ≤ 100000 then 1 else 0) := fun g => misIn32 z 0 100000 0 100000 rfl rfl g
  simp only [isWithin_eq, xb1_some, w01i, w1, w2, w3]
  by_cases p1 : 0 ≤ x ∧ x ≤ 1000
  rotate_left
  · rw [if_pos p1]
    refine ⟨-2, h, _, rfl, M0.i, ?_, I1⟩
    rw [M0.code0, xb1_some, if_pos p1]
  rw [if_neg (fun q => q p1)]
  by_cases p2 : 1 ≤ y ∧ y ≤ 4
  rotate_left
  · rw [if_pos p2]
    refine ⟨-2, h, _, rfl, M0.i, ?_, I1⟩
    rw [M0.code0, xb1_some, if_neg (fun q => q p1), if_pos p2]
  rw [if_neg (fun q => q p2)]
  by_cases p3 : 0 ≤ z ∧ z ≤ 100000
  rotate_left
  · rw [if_pos p3]
    refine ⟨-2, h, _, rfl, M0.i, ?_, I1⟩
    rw [M0.code0, xb1_some, if_neg (fun q => q p1), if_neg (fun q => q p2), if_pos p3]
  rw [if_neg (fun q => q p3), C.1.u, xb1_some, C.2.1.i, xchk_true, isFull_eq C.2.1 RU.1, xb1_some]
  by_cases hc : c < 24
  rotate_left
  · have e24 : c = 24 := by have := RU.1; omega
    rw [if_neg hc, if_neg (by decide)]
    refine ⟨-4, h, _, rfl, M0.i, ?_, I1⟩
    rw [M0.code0, xb1_some, if_neg (fun q => q p1), if_neg (fun q => q p2), if_neg (fun q => q p3), M1.gc, xb1_some, e24, if_pos (show nI 24 = 24 from rfl)]
  rw [if_pos hc, if_pos rfl]
  have s1 : xp h 0 5 1 .null = some (va_up h 1 (.inr (0, [.ref 2, .ref 8, .ref 13, .int (nI kc), .ref 14, va_rf none]))) := xp_at C.1.1 (show 5 < 6 by decide)
  rw [s1, xb1_some]
  generalize hg1 : va_up h 1 (.inr (0, [.ref 2, .ref 8, .ref 13, .int (nI kc), .ref 14, va_rf none])) = g1
  have T1 : CT g1 kc none := ⟨by rw [← hg1, up_s], by rw [← hg1, up_n (by decide)]; exact C.1.2⟩
  have U1 : CU g1 c (A 3) (A 4) (A 5) (A 6) (A 7) := C.2.1.fr (fun j j1 j2 => by rw [← hg1, up_n (by omega)])
  obtain ⟨a1, a2⟩ := uadd_eq U1 hc x y z
  rw [T1.u, xb1_some, U1.i, xchk_true, a1, xb2_some]
  generalize hg2 : uAdd g1 c (A 3) (A 4) (A 5) x y z = g2 at a1 a2
  have f2 : ∀ j, j ≠ 1 → j ≠ 2 → j ≠ 3 → j ≠ 4 → j ≠ 5 → g2 j = h j := by
    intro j j1 j2 j3 j4 j5
    rw [← hg2]
    unfold uAdd
    rw [up_n j5, up_n j4, up_n j3, up_n j2, ← hg1, up_n j1]
  have T2 : CT g2 kc none := T1.fr (fun j hj => by
    rw [← hg2]
    unfold uAdd
    rw [up_n (by omega), up_n (by omega), up_n (by omega), up_n (by omega)])
  have M2 : CM g2 A cd c tc bu B := M0.fr (fun j j1 j2 => f2 j (by omega) (by omega) (by omega) (by omega) (by omega))
  have M3 := M2.code c tc bu B
  -- the reference
  refine ⟨nI (c + 1), g2, ?_⟩
  rw [M2.code0, xb1_some]
  simp only [if_neg (fun q => q p1 : ¬ ¬ (0 ≤ x ∧ x ≤ 1000)), if_neg (fun q => q p2 : ¬ ¬ (1 ≤ y ∧ y ≤ 4)), if_neg (fun q => q p3 : ¬ ¬ (0 ≤ z ∧ z ≤ 100000)), M3.gc, xb1_some]
  rw [if_neg (show ¬ nI c = (24 : Int32) from fun q => by have := (nI_eq (b := 24) (by omega) (by omega)).mp q; omega), nI_1]
  generalize hg3 : va_up g2 20 (mO 0 c (nI tc) bu (nI B)) = g3 at M3
  have f3 : ∀ j, j ≠ 20 → g3 j = g2 j := fun j hj => by rw [← hg3, up_n hj]
  have s2 : xp g3 4 1 20 (.int (nI (c + 1))) = some (va_up g3 20 (mO 0 (c + 1) (nI tc) bu (nI B))) := xp_at M3.1 (show 1 < 19 by decide)
  rw [s2, xb1_some]
  have M4 := M3.code (c + 1) tc bu B
  generalize hg4 : va_up g3 20 (mO 0 (c + 1) (nI tc) bu (nI B)) = g4 at M4
  have f4 : ∀ j, j ≠ 20 → g4 j = g3 j := fun j hj => by rw [← hg4, up_n hj]
  rw [M4.g2, xb1_some, M4.gc, xb1_some, xaS_at M4.a21 (show c + 1 < 25 by omega) (by decide), xb1_some]
  generalize hg5 : va_up g4 21 (.inl (.int, (25, .inl (upd (A 21) (c + 1) x)))) = g5
  have f5 : ∀ j, j ≠ 21 → g5 j = g4 j := fun j hj => by rw [← hg5, up_n hj]
  have e5 : g5 20 = mO 0 (c + 1) (nI tc) bu (nI B) := by rw [f5 20 (by decide)]; exact M4.1
  rw [xgR_at (k := 3) e5 rfl, xb1_some, xgI_at (k := 1) e5 rfl, xb1_some, xaS_at (f := A 22) (by rw [f5 22 (by decide)]; exact M4.a22) (show c + 1 < 25 by omega) (by decide), xb1_some]
  generalize hg6 : va_up g5 22 (.inl (.int, (25, .inl (upd (A 22) (c + 1) y)))) = g6
  have f6 : ∀ j, j ≠ 22 → g6 j = g5 j := fun j hj => by rw [← hg6, up_n hj]
  have e6 : g6 20 = mO 0 (c + 1) (nI tc) bu (nI B) := by rw [f6 20 (by decide)]; exact e5
  rw [xgR_at (k := 4) e6 rfl, xb1_some, xgI_at (k := 1) e6 rfl, xb1_some, xaS_at (f := A 23) (by rw [f6 23 (by decide), f5 23 (by decide)]; exact M4.a23) (show c + 1 < 25 by omega) (by decide), xb1_some]
  generalize hg7 : va_up g6 23 (.inl (.int, (25, .inl (upd (A 23) (c + 1) z)))) = g7
  have f7 : ∀ j, j ≠ 23 → g7 j = g6 j := fun j hj => by rw [← hg7, up_n hj]
  have e7 : g7 20 = mO 0 (c + 1) (nI tc) bu (nI B) := by rw [f7 20 (by decide)]; exact e6
  have s3 : xp g7 4 11 20 (.int 0) = some (va_up g7 20 (mO 0 (c + 1) (nI tc) 0 (nI B))) := xp_at e7 (show 11 < 19 by decide)
  rw [s3, xb1_some]
  have e8 : (va_up g7 20 (mO 0 (c + 1) (nI tc) 0 (nI B))) 20 = mO 0 (c + 1) (nI tc) 0 (nI B) := up_s
  rw [xgI_at (k := 1) e8 rfl, xb1_some]
  refine ⟨_, trivial, M2.i, rfl, ?_⟩
  generalize hg8 : va_up g7 20 (mO 0 (c + 1) (nI tc) 0 (nI B)) = g8 at e8
  have fl : ∀ j, j ≠ 20 → j ≠ 21 → j ≠ 22 → j ≠ 23 → g8 j = g2 j := fun j j0 j1 j2 j3 => by rw [← hg8, up_n j0, f7 j j3, f6 j j2, f5 j j1, f4 j j0, f3 j j0]
  have h21 : g8 21 = .inl (.int, (25, .inl (upd (A 21) (c + 1) x))) := by rw [← hg8, up_n (by decide), f7 21 (by decide), f6 21 (by decide), ← hg5, up_s]
  have h22 : g8 22 = .inl (.int, (25, .inl (upd (A 22) (c + 1) y))) := by rw [← hg8, up_n (by decide), f7 22 (by decide), ← hg6, up_s]
  have h23 : g8 23 = .inl (.int, (25, .inl (upd (A 23) (c + 1) z))) := by rw [← hg8, up_n (by decide), ← hg7, up_s]
  obtain ⟨A', hA'⟩ : ∃ A' : Nat → Nat → Int32, A' = fun j => if j = 3 ∨ j = 21 then upd (A 3) (c + 1) x else if j = 4 ∨ j = 22 then upd (A 4) (c + 1) y else if j = 5 ∨ j = 23 then upd (A 5) (c + 1) z else A j := ⟨_, rfl⟩
  have k3 : A' 3 = upd (A 3) (c + 1) x := by rw [hA']; rfl
  have k4 : A' 4 = upd (A 4) (c + 1) y := by rw [hA']; rfl
  have k5 : A' 5 = upd (A 5) (c + 1) z := by rw [hA']; rfl
  have k21 : A' 21 = upd (A 21) (c + 1) x := by rw [hA', RU.2.1]; rfl
  have k22 : A' 22 = upd (A 22) (c + 1) y := by rw [hA', RU.2.2.1]; rfl
  have k23 : A' 23 = upd (A 23) (c + 1) z := by rw [hA', RU.2.2.2.1]; rfl
  have kn : ∀ j, ¬ (j = 3 ∨ j = 21) → ¬ (j = 4 ∨ j = 22) → ¬ (j = 5 ∨ j = 23) → A' j = A j := fun j a b d => by rw [hA']; simp only [if_neg a, if_neg b, if_neg d]
  refine ⟨A', PT, 0, c + 1, tc, kc, B, none, 0, ⟨T2.fr (fun j hj => fl j (by omega) (by omega) (by omega) (by omega)), ?_, ?_, ?_, fun p hp => ?_⟩, hn, hB, ?_, ?_, ?_, ?_, RelB.none _ _ _ _, ?_⟩
  · rw [k3, k4, k5, kn 6 (by decide) (by decide) (by decide), kn 7 (by decide) (by decide) (by decide)]
    exact a2.fr (fun j j1 j2 => fl j (by omega) (by omega) (by omega) (by omega))
  · rw [kn 9 (by decide) (by decide) (by decide), kn 10 (by decide) (by decide) (by decide), kn 11 (by decide) (by decide) (by decide), kn 12 (by decide) (by decide) (by decide)]
    exact C.2.2.1.fr (fun j j1 j2 => by rw [fl j (by omega) (by omega) (by omega) (by omega), f2 j (by omega) (by omega) (by omega) (by omega) (by omega)])
  · have fq : ∀ j, 24 ≤ j → g8 j = g2 j := fun j hj => fl j (by omega) (by omega) (by omega) (by omega)
    have fk : ∀ j, 24 ≤ j → A' j = A j := fun j hj => kn j (by omega) (by omega) (by omega)
    exact ⟨e8, by rw [k21]; exact h21, by rw [k22]; exact h22, by rw [k23]; exact h23, by rw [fq 24 (by decide), fk 24 (by decide)]; exact M2.a24, by rw [fq 25 (by decide), fk 25 (by decide)]; exact M2.a25, by rw [fq 26 (by decide), fk 26 (by decide)]; exact M2.a26, by rw [fq 27 (by decide), fk 27 (by decide)]; exact M2.a27, by rw [fq 28 (by decide), fk 28 (by decide)]; exact M2.a28, by rw [fq 29 (by decide), fk 29 (by decide)]; exact M2.a29, by rw [fq 30 (by decide), fk 30 (by decide)]; exact M2.a30, by rw [fq 31 (by decide), fk 31 (by decide)]; exact M2.a31, by rw [fq 32 (by decide), fk 32 (by decide)]; exact M2.a32, by rw [fq 33 (by decide), fk 33 (by decide)]; exact M2.a33, by rw [fq 34 (by decide), fk 34 (by decide)]; exact M2.a34⟩
  · have hp14 : p = 14 ∨ 35 ≤ p := hp.ge
    rw [kn (p + 1) (by omega) (by omega) (by omega), kn (p + 2) (by omega) (by omega) (by omega), kn (p + 3) (by omega) (by omega) (by omega), kn (p + 4) (by omega) (by omega) (by omega), kn (p + 5) (by omega) (by omega) (by omega)]
    exact (C.2.2.2.2 p hp).fr (fun j j1 j2 => by rw [fl j (by omega) (by omega) (by omega) (by omega), f2 j (by omega) (by omega) (by omega) (by omega) (by omega)])
  · refine ⟨by omega, by rw [k21, k3, RU.2.1], by rw [k22, k4, RU.2.2.1], by rw [k23, k5, RU.2.2.2.1], by rw [kn 24 (by decide) (by decide) (by decide), kn 9 (by decide) (by decide) (by decide)]; exact RU.2.2.2.2.1, fun r r1 r2 => ?_⟩
    rw [k3, k4, k5]
    by_cases e : r = c + 1
    · subst e
      rw [upd_s, upd_s, upd_s]
      obtain ⟨k, q1, q2⟩ := p_rng (n := 4) (by decide) (x := y) ⟨by
        have := p2.1
        rw [Int32.le_iff_toInt_le] at this ⊢
        have e1 : (1 : Int32).toInt = 1 := by decide
        have e0 : (0 : Int32).toInt = 0 := by decide
        omega, p2.2⟩
      refine ⟨⟨k, ?_, q1, q2⟩, p_rng (n := 1000) (by decide) p1, p_rng (n := 100000) (by decide) p3⟩
      rcases Nat.eq_zero_or_pos k with q | q
      · subst q
        rw [q2] at p2
        exact absurd p2.1 (by decide)
      · exact q
    · rw [upd_n e, upd_n e, upd_n e]
      exact RU.2.2.2.2.2 r r1 (by omega)
  · refine ⟨?_, RG.2.1, ?_⟩
    · rw [kn 9 (by decide) (by decide) (by decide), kn 10 (by decide) (by decide) (by decide)]
      exact RG.1.grow (by omega)
    · rw [kn 12 (by decide) (by decide) (by decide), kn 27 (by decide) (by decide) (by decide)]
      exact RG.2.2
  · unfold RelD
    rw [kn 6 (by decide) (by decide) (by decide), kn 7 (by decide) (by decide) (by decide), kn 25 (by decide) (by decide) (by decide), kn 26 (by decide) (by decide) (by decide)]
    refine ⟨RD.1, fun r d hr hd => ?_, fun r d hd hr => ?_⟩
    · obtain ⟨q1, q2, q3, q4⟩ := RD.2.1 r d hr hd
      exact ⟨q1, q2, q3, by omega⟩
    · obtain ⟨q1, q2, q3⟩ := RD.2.2 r d hd hr
      exact ⟨q1, q2, by omega⟩
  · exact RK.fr (by omega) (fun r hr => ⟨by rw [k3, upd_n (by omega)], by rw [k4, upd_n (by omega)]⟩) (fun j hj => kn j (by omega) (by omega) (by omega))
  · refine ⟨by rw [kn 19 (by decide) (by decide) (by decide)]; exact RZ.1, fun r hr hq => ?_⟩
    rw [kn 15 (by decide) (by decide) (by decide)]
    exact RZ.2 r hr (hq.elim Or.inl (fun q => Or.inr (by omega)))

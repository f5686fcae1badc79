theorem marea_loop {h : XH} {cd : Int32} {c : Nat} {rs bu bs : Int32} {F G : Nat → Int32} (e : h 20 = mO cd c rs bu bs) (e25 : h 25 = .inl (.int, (21, .inl F))) (e26 : h 26 = .inl (.int, (21, .inl G))) {r : Nat} (hr : r < 32) (S : Int32) (hS : ∀ d, 1 ≤ d → d ≤ 20 → bt S d = (bt (F d) r || bt (G d) r)) : ∀ k i f, i + k = 20 → k < f → D_M_area_92 f 20 ((1 : Int32) <<< (nI r &&& 31)) (nI (cntB S i)) (nI (i + 1)) h = some (nI (cntB S 20), h) := by
  intro k
  induction k with
  | zero =>
    intro i f hi hf
    obtain ⟨f, rfl⟩ : ∃ g, f = g + 1 := ⟨f - 1, by omega⟩
    obtain rfl : i = 20 := by omega
    rfl
  | succ k ih =>
    intro i f hi hf
    obtain ⟨f, rfl⟩ : ∃ g, f = g + 1 := ⟨f - 1, by omega⟩
    have hs := ih (i + 1) f (by omega) (by omega)
    have g6 : xgR h 4 6 20 = some 25 := xgR_at e rfl
    have g7 : xgR h 4 7 20 = some 26 := xgR_at e rfl
    simp only [D_M_area_92, D_M_area_127, g6, g7, xb1_some, xaI_at e25 (show i + 1 < 21 by omega) (by decide), xaI_at e26 (show i + 1 < 21 by omega) (by decide), b_isin _ r hr, b_or, nI_1]
    rw [if_neg (show ¬ (20 : Int32) < nI (i + 1) from nI_nlt (a := 20) (by omega) (by omega)), ← hS (i + 1) (by omega) (by omega)]
    rw [cntB] at hs
    cases q : bt S (i + 1)
    · rw [q] at hs
      rw [if_pos rfl, show nI (cntB S i) + (0 : Int32) = nI (cntB S i) from nI_add _ 0]
      exact hs
    · rw [q] at hs
      rw [if_neg (by decide)]
      exact hs
theorem neg_dat {x : Int32} (hx : ¬ 0 ≤ x) : (¬ x < -20 ∧ ∃ d, 1 ≤ d ∧ d ≤ 20 ∧ -x = nI d) ∨ (x < -20 ∧ ¬ (1 ≤ -x ∧ -x ≤ 20) ∧ ¬ (1 ≤ x ∧ x ≤ 20)) := by
  have e20 : (-20 : Int32).toInt = -20 := by decide
  have p20 : (20 : Int32).toInt = 20 := by decide
  have p1 : (1 : Int32).toInt = 1 := by decide
  have p0 : (0 : Int32).toInt = 0 := by decide
  rw [Int32.le_iff_toInt_le, p0] at hx
  have lo := Int32.le_toInt x
  have hi := Int32.toInt_lt x
  by_cases q : x < -20
  · refine Or.inr ⟨q, ?_, ?_⟩
    · rintro ⟨a, b⟩
      rw [Int32.lt_iff_toInt_lt, e20] at q
      rw [Int32.le_iff_toInt_le, p1] at a
      rw [Int32.le_iff_toInt_le, p20] at b
      rw [Int32.toInt_neg] at a b
      by_cases z : x.toInt = -2 ^ 31
      · rw [z] at a; exact absurd a (by decide)
      · rw [Int.bmod_eq_of_le (by omega) (by omega)] at a b
        omega
    · rintro ⟨a, b⟩
      rw [Int32.le_iff_toInt_le, p1] at a
      omega
  · refine Or.inl ⟨q, ?_⟩
    rw [Int32.lt_iff_toInt_lt, e20] at q
    refine ⟨(-x.toInt).toNat, by omega, by omega, ?_⟩
    apply Int32.toInt_inj.mp
    rw [Int32.toInt_neg, nI_toInt (by omega), Int.bmod_eq_of_le (by omega) (by omega)]
    omega
theorem area_do_r {m n : Nat} {h : XH} {A : Nat → Nat → Int32} {PT : Nat → Nat} {cd : Int32} {c tc kc B : Nat} {bl : Option Nat} {bu : Int32} (C : Cells h A PT cd c tc kc B bl bu) (hn : n = 34 + 6 * kc) (hB : B ≤ m) (RU : RelU A c) (RG : RelG A c tc) (RD : RelD A c) (RK : RelK A PT c kc B) (RZ : RelZ A c) {r d : Nat} (r1 : 1 ≤ r) (r2 : r ≤ c) (d1 : 1 ≤ d) (d2 : d ≤ 20) (x : Int32) (hx : ¬ x ≤ 0) : ∃ v h1 h', D_T_area_33 1 (nI r) 0 (nI d) h = some (v, h1) ∧ CM h1 A cd c tc bu B ∧ D_M_area_31 20 (nI r) x (nI d) (va_up h1 20 (mO 0 c (nI tc) bu (nI B))) = some (v, h') ∧ Inv m n h' := by
  have hc := RU.1
  have q : 1 ≤ nI d ∧ nI d ≤ 20 := ⟨nI_le (a := 1) d1 (by omega), nI_le (b := 20) d2 (by omega)⟩
  have w1 : ∀ g : XH, X_M_isIn (nI d).toInt64 1 20 g = some (if 1 ≤ nI d ∧ nI d ≤ 20 then 1 else 0) := fun g => misIn32 (nI d) 1 20 1 20 rfl rfl g
  have s1 : xp h 0 5 1 .null = some (va_up h 1 (.inr (0, [.ref 2, .ref 8, .ref 13, .int (nI kc), .ref 14, va_rf none]))) := xp_at C.1.1 (show 5 < 6 by decide)
  unfold D_T_area_33 D_M_area_31 D_M_area_86 D_T_area_78
  simp only [isDatum_eq, w1, xb1_some, w01i, if_neg (fun z => z q : ¬ ¬ (1 ≤ nI d ∧ nI d ≤ 20)), s1]
  generalize hg1 : va_up h 1 (.inr (0, [.ref 2, .ref 8, .ref 13, .int (nI kc), .ref 14, va_rf none])) = g1
  have T1 : CT g1 kc none := ⟨by rw [← hg1, up_s], by rw [← hg1, up_n (by decide)]; exact C.1.2⟩
  have U1 : CU g1 c (A 3) (A 4) (A 5) (A 6) (A 7) := C.2.1.fr (fun j j1 j2 => by rw [← hg1, up_n (by omega)])
  have a1 : X_U_addRead 2 (nI r) (nI d) g1 = some (va_up g1 6 (.inl (.int, (25, .inl (upd (A 6) r (A 6 r ||| ((1 : Int32) <<< (nI d &&& 31)))))))) := by
    unfold X_U_addRead D_U_addRead_0
    rw [U1.r, xb1_some, xaI_at U1.2.2.2.2.1 (show r < 25 by omega) (by decide), xb1_some, xaS_at U1.2.2.2.2.1 (show r < 25 by omega) (by decide), xb1_some]
  rw [if_pos trivial]
  simp only [T1.u, xb1_some, U1.i, xchk_true, a1]
  generalize hg2 : va_up g1 6 (.inl (.int, (25, .inl (upd (A 6) r (A 6 r ||| ((1 : Int32) <<< (nI d &&& 31))))))) = g2
  have f2 : ∀ j, j ≠ 1 → j ≠ 6 → g2 j = h j := fun j j1 j2 => by rw [← hg2, up_n j2, ← hg1, up_n j1]
  have T2 : CT g2 kc none := T1.fr (fun j hj => by rw [← hg2, up_n (by omega)])
  have ea : g2 6 = .inl (.int, (25, .inl (upd (A 6) r (A 6 r ||| ((1 : Int32) <<< (nI d &&& 31)))))) := by rw [← hg2, up_s]
  have eo : g2 7 = .inl (.int, (25, .inl (A 7))) := by rw [f2 7 (by decide) (by decide)]; exact C.2.1.2.2.2.2.2
  have e2 : g2 2 = .inr (1, [.int (nI c), .ref 3, .ref 4, .ref 5, .ref 6, .ref 7]) := by rw [f2 2 (by decide) (by decide)]; exact C.2.1.1
  have M2 : CM g2 A cd c tc bu B := C.2.2.2.1.fr (fun j j1 j2 => f2 j (by omega) (by omega))
  obtain ⟨S, hS⟩ : ∃ S, S = upd (A 6) r (A 6 r ||| ((1 : Int32) <<< (nI d &&& 31))) r ||| A 7 r := ⟨_, rfl⟩
  have bS : ∀ i, bt S i = true → 1 ≤ i ∧ i ≤ 20 := by
    intro i hi
    rw [hS, b_or, upd_s, b_or, Bool.or_eq_true, Bool.or_eq_true, sh_bit (by omega), decide_eq_true_eq] at hi
    rcases hi with (hi | hi) | hi
    · have := RD.2.1 r i (by omega) (Or.inl hi); exact ⟨this.1, this.2.1⟩
    · omega
    · have := RD.2.1 r i (by omega) (Or.inr hi); exact ⟨this.1, this.2.1⟩
  have du : X_U_dataUsedBy 2 (nI r) g2 = some (nI (cntB S 20)) := by
    unfold X_U_dataUsedBy D_U_dataUsedBy_0
    rw [xgR_at (k := 4) e2 rfl, xb1_some, xaI_at ea (show r < 25 by omega) (by decide), xb1_some, xgR_at (k := 5) e2 rfl, xb1_some, xaI_at eo (show r < 25 by omega) (by decide), xb1_some, ← hS, bc_eq S bS, xb1_some]
  rw [T2.u, xb1_some, xis_at e2, xchk_true, du, xb1_some]
  have M3 := M2.code c tc bu B
  generalize hg3 : va_up g2 20 (mO 0 c (nI tc) bu (nI B)) = g3 at M3
  have s2 : xp g3 4 11 20 (.int 0) = some (va_up g3 20 (mO 0 c (nI tc) 0 (nI B))) := xp_at M3.1 (show 11 < 19 by decide)
  have M4 := M3.code c tc 0 B
  generalize hg4 : va_up g3 20 (mO 0 c (nI tc) 0 (nI B)) = g4 at M4 s2
  have f4 : ∀ j, j ≠ 20 → g4 j = g2 j := fun j hj => by rw [← hg4, up_n hj, ← hg3, up_n hj]
  refine ⟨nI (cntB S 20), g2, va_up g4 25 (.inl (.int, (21, .inl (upd (A 25) d (A 25 d ||| ((1 : Int32) <<< (nI r &&& 31))))))), rfl, M2, ?_, ?_⟩
  all_goals generalize hg5 : va_up g4 25 (.inl (.int, (21, .inl (upd (A 25) d (A 25 d ||| ((1 : Int32) <<< (nI r &&& 31))))))) = g5
  all_goals have f5 : ∀ j, j ≠ 25 → g5 j = g4 j := fun j hj => by rw [← hg5, up_n hj]
  all_goals have e20 : g5 20 = mO 0 c (nI tc) 0 (nI B) := by rw [f5 20 (by decide)]; exact M4.1
  all_goals have eb : g5 25 = .inl (.int, (21, .inl (upd (A 25) d (A 25 d ||| ((1 : Int32) <<< (nI r &&& 31)))))) := by rw [← hg5, up_s]
  all_goals have eq : g5 26 = .inl (.int, (21, .inl (A 26))) := by rw [f5 26 (by decide)]; exact M4.a26
  all_goals obtain ⟨iv, key⟩ := area_inv_r (h' := g5) C hn hB RU RG RD RK RZ r1 r2 d1 d2 (by rw [f5 1 (by decide), f4 1 (by decide)]; exact T2.1) e20 (by rw [f5 6 (by decide), f4 6 (by decide)]; exact ea) eb (fun j j1 j2 j3 j4 => by rw [f5 j j4, f4 j j2, f2 j j1 j3])
  · rw [hg3, s2, xb1_some, if_neg hx, M4.g6, xb1_some, xaI_at M4.a25 (show d < 21 by omega) (by decide), xb1_some, xaS_at M4.a25 (show d < 21 by omega) (by decide), xb1_some, hg5]
    refine marea_loop e20 eb eq (show r < 32 by omega) S (fun d' h1 h2 => ?_) 20 0 5000 (by omega) (by omega)
    rw [hS, b_or, key d' h1 h2, (RD.1 r d' (by omega) h1 h2).2]
  · exact iv
theorem area_do_w {m n : Nat} {h : XH} {A : Nat → Nat → Int32} {PT : Nat → Nat} {cd : Int32} {c tc kc B : Nat} {bl : Option Nat} {bu : Int32} (C : Cells h A PT cd c tc kc B bl bu) (hn : n = 34 + 6 * kc) (hB : B ≤ m) (RU : RelU A c) (RG : RelG A c tc) (RD : RelD A c) (RK : RelK A PT c kc B) (RZ : RelZ A c) {r d : Nat} (r1 : 1 ≤ r) (r2 : r ≤ c) (d1 : 1 ≤ d) (d2 : d ≤ 20) (x : Int32) (hx : x ≤ 0) : ∃ v h1 h', D_T_area_33 1 (nI r) 1 (nI d) h = some (v, h1) ∧ CM h1 A cd c tc bu B ∧ D_M_area_31 20 (nI r) x (nI d) (va_up h1 20 (mO 0 c (nI tc) bu (nI B))) = some (v, h') ∧ Inv m n h' := by
  have hc := RU.1
  have q : 1 ≤ nI d ∧ nI d ≤ 20 := ⟨nI_le (a := 1) d1 (by omega), nI_le (b := 20) d2 (by omega)⟩
  have w1 : ∀ g : XH, X_M_isIn (nI d).toInt64 1 20 g = some (if 1 ≤ nI d ∧ nI d ≤ 20 then 1 else 0) := fun g => misIn32 (nI d) 1 20 1 20 rfl rfl g
  have s1 : xp h 0 5 1 .null = some (va_up h 1 (.inr (0, [.ref 2, .ref 8, .ref 13, .int (nI kc), .ref 14, va_rf none]))) := xp_at C.1.1 (show 5 < 6 by decide)
  unfold D_T_area_33 D_M_area_31 D_M_area_86 D_T_area_78
  simp only [isDatum_eq, w1, xb1_some, w01i, if_neg (fun z => z q : ¬ ¬ (1 ≤ nI d ∧ nI d ≤ 20)), s1]
  generalize hg1 : va_up h 1 (.inr (0, [.ref 2, .ref 8, .ref 13, .int (nI kc), .ref 14, va_rf none])) = g1
  have T1 : CT g1 kc none := ⟨by rw [← hg1, up_s], by rw [← hg1, up_n (by decide)]; exact C.1.2⟩
  have U1 : CU g1 c (A 3) (A 4) (A 5) (A 6) (A 7) := C.2.1.fr (fun j j1 j2 => by rw [← hg1, up_n (by omega)])
  have a1 : X_U_addWrite 2 (nI r) (nI d) g1 = some (va_up g1 7 (.inl (.int, (25, .inl (upd (A 7) r (A 7 r ||| ((1 : Int32) <<< (nI d &&& 31)))))))) := by
    unfold X_U_addWrite D_U_addWrite_0
    rw [U1.w, xb1_some, xaI_at U1.2.2.2.2.2 (show r < 25 by omega) (by decide), xb1_some, xaS_at U1.2.2.2.2.2 (show r < 25 by omega) (by decide), xb1_some]
  rw [if_neg (by decide)]
  simp only [T1.u, xb1_some, U1.i, xchk_true, a1]
  generalize hg2 : va_up g1 7 (.inl (.int, (25, .inl (upd (A 7) r (A 7 r ||| ((1 : Int32) <<< (nI d &&& 31))))))) = g2
  have f2 : ∀ j, j ≠ 1 → j ≠ 7 → g2 j = h j := fun j j1 j2 => by rw [← hg2, up_n j2, ← hg1, up_n j1]
  have T2 : CT g2 kc none := T1.fr (fun j hj => by rw [← hg2, up_n (by omega)])
  have ea : g2 7 = .inl (.int, (25, .inl (upd (A 7) r (A 7 r ||| ((1 : Int32) <<< (nI d &&& 31)))))) := by rw [← hg2, up_s]
  have eo : g2 6 = .inl (.int, (25, .inl (A 6))) := by rw [f2 6 (by decide) (by decide)]; exact C.2.1.2.2.2.2.1
  have e2 : g2 2 = .inr (1, [.int (nI c), .ref 3, .ref 4, .ref 5, .ref 6, .ref 7]) := by rw [f2 2 (by decide) (by decide)]; exact C.2.1.1
  have M2 : CM g2 A cd c tc bu B := C.2.2.2.1.fr (fun j j1 j2 => f2 j (by omega) (by omega))
  obtain ⟨S, hS⟩ : ∃ S, S = A 6 r ||| upd (A 7) r (A 7 r ||| ((1 : Int32) <<< (nI d &&& 31))) r := ⟨_, rfl⟩
  have bS : ∀ i, bt S i = true → 1 ≤ i ∧ i ≤ 20 := by
    intro i hi
    rw [hS, b_or, upd_s, b_or, Bool.or_eq_true, Bool.or_eq_true, sh_bit (by omega), decide_eq_true_eq] at hi
    rcases hi with hi | hi | hi
    · have := RD.2.1 r i (by omega) (Or.inl hi); exact ⟨this.1, this.2.1⟩
    · have := RD.2.1 r i (by omega) (Or.inr hi); exact ⟨this.1, this.2.1⟩
    · omega
  have du : X_U_dataUsedBy 2 (nI r) g2 = some (nI (cntB S 20)) := by
    unfold X_U_dataUsedBy D_U_dataUsedBy_0
    rw [xgR_at (k := 4) e2 rfl, xb1_some, xaI_at eo (show r < 25 by omega) (by decide), xb1_some, xgR_at (k := 5) e2 rfl, xb1_some, xaI_at ea (show r < 25 by omega) (by decide), xb1_some, ← hS, bc_eq S bS, xb1_some]
  rw [T2.u, xb1_some, xis_at e2, xchk_true, du, xb1_some]
  have M3 := M2.code c tc bu B
  generalize hg3 : va_up g2 20 (mO 0 c (nI tc) bu (nI B)) = g3 at M3
  have s2 : xp g3 4 11 20 (.int 0) = some (va_up g3 20 (mO 0 c (nI tc) 0 (nI B))) := xp_at M3.1 (show 11 < 19 by decide)
  have M4 := M3.code c tc 0 B
  generalize hg4 : va_up g3 20 (mO 0 c (nI tc) 0 (nI B)) = g4 at M4 s2
  have f4 : ∀ j, j ≠ 20 → g4 j = g2 j := fun j hj => by rw [← hg4, up_n hj, ← hg3, up_n hj]
  refine ⟨nI (cntB S 20), g2, va_up g4 26 (.inl (.int, (21, .inl (upd (A 26) d (A 26 d ||| ((1 : Int32) <<< (nI r &&& 31))))))), rfl, M2, ?_, ?_⟩
  all_goals generalize hg5 : va_up g4 26 (.inl (.int, (21, .inl (upd (A 26) d (A 26 d ||| ((1 : Int32) <<< (nI r &&& 31))))))) = g5
  all_goals have f5 : ∀ j, j ≠ 26 → g5 j = g4 j := fun j hj => by rw [← hg5, up_n hj]
  all_goals have e20 : g5 20 = mO 0 c (nI tc) 0 (nI B) := by rw [f5 20 (by decide)]; exact M4.1
  all_goals have eb : g5 26 = .inl (.int, (21, .inl (upd (A 26) d (A 26 d ||| ((1 : Int32) <<< (nI r &&& 31)))))) := by rw [← hg5, up_s]
  all_goals have eq : g5 25 = .inl (.int, (21, .inl (A 25))) := by rw [f5 25 (by decide)]; exact M4.a25
  all_goals obtain ⟨iv, key⟩ := area_inv_w (h' := g5) C hn hB RU RG RD RK RZ r1 r2 d1 d2 (by rw [f5 1 (by decide), f4 1 (by decide)]; exact T2.1) e20 (by rw [f5 7 (by decide), f4 7 (by decide)]; exact ea) eb (fun j j1 j2 j3 j4 => by rw [f5 j j4, f4 j j2, f2 j j1 j3])
  · rw [hg3, s2, xb1_some, if_pos hx, M4.g7, xb1_some, xaI_at M4.a26 (show d < 21 by omega) (by decide), xb1_some, xaS_at M4.a26 (show d < 21 by omega) (by decide), xb1_some, hg5]
    refine marea_loop e20 eq eb (show r < 32 by omega) S (fun d' h1 h2 => ?_) 20 0 5000 (by omega) (by omega)
    rw [hS, b_or, key d' h1 h2, (RD.1 r d' (by omega) h1 h2).1]
  · exact iv
theorem op_area {m n : Nat} {h : XH} (I : Inv m n h) (x y : Int32) : ∃ v h1 h', X_T_area 1 x y h = some (v, h1) ∧ xis h1 4 20 = true ∧ X_M_area 20 x y h1 = some (v, h') ∧ Inv m n h' := by
  obtain ⟨A, PT, cd, c, tc, kc, B, bl, bu, C, hn, hB, RU, RG, RD, RK, RB, RZ⟩ := I
  have C1 := C.code
  have M0 := C.2.2.2.1
  have M1 := C1.2.2.2.1
  have I1 : Inv m n (va_up h 20 (mO 0 c (nI tc) bu (nI B))) := ⟨A, PT, 0, c, tc, kc, B, bl, bu, C1, hn, hB, RU, RG, RD, RK, RB, RZ⟩
  have hc := RU.1
  unfold X_T_area D_T_area_0 D_T_area_22 X_M_area D_M_area_0 D_M_area_30
  simp only [C.1.u, xb1_some, C.2.1.i, xchk_true, has_eq C.2.1, w01i]
  have mm : ∀ g, CM g A cd c tc bu B → xp g 4 0 20 (.int (0 : Int32)) = some (va_up g 20 (mO 0 c (nI tc) bu (nI B))) ∧ xis (va_up g 20 (mO 0 c (nI tc) bu (nI B))) 4 20 = true ∧ X_M_isRunnable 20 x (va_up g 20 (mO 0 c (nI tc) bu (nI B))) = some (if 1 ≤ x ∧ x ≤ nI c then 1 else 0) := fun g G => ⟨G.code0, (G.code c tc bu B).i, isRunnable_eq (G.code c tc bu B).mu x⟩
  by_cases q : 1 ≤ x ∧ x ≤ nI c
  · simp only [if_neg (fun z => z q : ¬ ¬ (1 ≤ x ∧ x ≤ nI c))]
    obtain ⟨r, r1, r2, rfl⟩ := in_rng (by omega) q
    -- refused: outside
    have out : ∀ (x3 s0 z : Int32), ¬ (1 ≤ s0 ∧ s0 ≤ 20) → ¬ (1 ≤ z ∧ z ≤ 20) → D_T_area_33 1 (nI r) x3 s0 h = some (-2, h) ∧ D_M_area_31 20 (nI r) y z (va_up h 20 (mO 0 c (nI tc) bu (nI B))) = some (-2, va_up h 20 (mO 0 c (nI tc) bu (nI B))) := by
      intro x3 s0 z a b
      have w1 : ∀ g : XH, X_M_isIn z.toInt64 1 20 g = some (if 1 ≤ z ∧ z ≤ 20 then 1 else 0) := fun g => misIn32 z 1 20 1 20 rfl rfl g
      unfold D_T_area_33 D_M_area_31
      simp only [isDatum_eq, w1, xb1_some, w01i]
      exact ⟨if_pos a, if_pos b⟩
    by_cases p : 0 ≤ y
    · simp only [if_pos p]
      by_cases dt : 1 ≤ y ∧ y ≤ 20
      · obtain ⟨d, d1, d2, rfl⟩ := in_rng (c := 20) (by decide) dt
        obtain ⟨v, h1, h', a1, a2, a3, a4⟩ := area_do_r C hn hB RU RG RD RK RZ r1 r2 d1 d2 (nI d) (nI_nle (by omega) (by omega))
        obtain ⟨b1, b2, b3⟩ := mm h1 a2
        refine ⟨v, h1, h', a1, a2.i, ?_, a4⟩
        rw [b1, xb1_some, b2, xchk_true, b3, xb1_some, if_pos q, if_neg (by decide)]
        exact a3
      · obtain ⟨a1, a2⟩ := out 0 y y dt dt
        obtain ⟨b1, b2, b3⟩ := mm h M0
        refine ⟨-2, h, _, a1, M0.i, ?_, I1⟩
        rw [b1, xb1_some, b2, xchk_true, b3, xb1_some, if_pos q, if_neg (by decide)]
        exact a2
    · simp only [if_neg p]
      rcases neg_dat p with ⟨z, d, d1, d2, e⟩ | ⟨z, z1, z2⟩
      · simp only [if_neg z, e]
        obtain ⟨v, h1, h', a1, a2, a3, a4⟩ := area_do_w C hn hB RU RG RD RK RZ r1 r2 d1 d2 y (by
          rw [Int32.le_iff_toInt_le] at p ⊢; omega)
        obtain ⟨b1, b2, b3⟩ := mm h1 a2
        refine ⟨v, h1, h', a1, a2.i, ?_, a4⟩
        rw [b1, xb1_some, b2, xchk_true, b3, xb1_some, if_pos q, if_neg (by decide)]
        exact a3
      · simp only [if_pos z]
        obtain ⟨a1, a2⟩ := out 1 (-y) y z1 z2
        obtain ⟨b1, b2, b3⟩ := mm h M0
        refine ⟨-2, h, _, a1, M0.i, ?_, I1⟩
        rw [b1, xb1_some, b2, xchk_true, b3, xb1_some, if_pos q, if_neg (by decide)]
        exact a2
  · simp only [if_pos q]
    obtain ⟨b1, b2, b3⟩ := mm h M0
    refine ⟨-1, h, _, rfl, M0.i, ?_, I1⟩
    rw [b1, xb1_some, b2, xchk_true, b3, xb1_some, if_neg q, if_pos rfl]

/-! build() -/
/-- what the next plan is, kept or not -/
theorem next_plan {g0 : XH} {A : Nat → Nat → Int32} {PT : Nat → Nat} {c kc B n : Nat} (T0 : CT g0 kc none) (hP : ∀ q, isPlan kc q → CP g0 q (PT q) (A (q + 1)) (A (q + 2)) (A (q + 3)) (A (q + 4)) (A (q + 5))) (hn : n = 34 + 6 * kc) (hk : kc = min B 40) (RZ : RelZ A c) : ∃ p n' kc' hq N tO pO rO rw sO, X_T_nextPlan 1 n g0 = some (p, n', hq) ∧ n' = 34 + 6 * kc' ∧ kc' = min (B + 1) 40 ∧ CT hq kc' none ∧ CP hq p N tO pO rO rw sO ∧ sO 1 = 0 ∧ (∀ r, r ≤ 24 → (r = 0 ∨ c < r) → tO r = 0) ∧ (∀ j, j ≠ 1 → j ≠ 13 → (j < p ∨ p + 5 < j) → hq j = g0 j) ∧ isPlan kc' p ∧ (p = 14 ∧ kc' = kc ∧ 40 ≤ B ∨ p = 35 + 6 * kc ∧ kc' = kc + 1 ∧ kc = B ∧ B < 40) := by
  by_cases q : B < 40
  · have e : kc = B := by omega
    obtain ⟨h', a1, a2, a3, a4⟩ := next_new T0 hn (by omega)
    refine ⟨n + 1, n + 6, kc + 1, h', 0, zF, zF, zF, zF, zF, a1, by omega, by omega, a2, a3, rfl, fun _ _ _ => rfl, fun j j1 j2 j3 => a4 j j1 j2 (by omega), Or.inr ⟨kc, by omega, by omega⟩, Or.inr ⟨by omega, rfl, e, q⟩⟩
  · have e : kc = 40 := by omega
    subst e
    exact ⟨14, n, 40, g0, PT 14, A 15, A 16, A 17, A 18, A 19, next_old T0, hn, by omega, T0, hP 14 (Or.inl rfl), RZ.1, RZ.2, fun _ _ _ _ => rfl, Or.inl rfl, Or.inl ⟨rfl, rfl, by omega⟩⟩
theorem op_build {m n : Nat} {h : XH} (I : Inv m n h) (hm : m < 2 ^ 30) : ∃ v n' h1 h', X_T_build 1 n h = some (v, n', h1) ∧ xis h1 4 20 = true ∧ X_M_build 20 h1 = some (v, h') ∧ Inv (m + 1) n' h' := by
  obtain ⟨A, PT, cd, c, tc, kc, B, bl, bu, C, hn, hB, RU, RG, RD, RK, RB, RZ⟩ := I
  have hc := RU.1
  have s1 : xp h 0 5 1 .null = some (va_up h 1 (.inr (0, [.ref 2, .ref 8, .ref 13, .int (nI kc), .ref 14, va_rf none]))) := xp_at C.1.1 (show 5 < 6 by decide)
  generalize hg0 : va_up h 1 (.inr (0, [.ref 2, .ref 8, .ref 13, .int (nI kc), .ref 14, va_rf none])) = g0 at s1
  have f0 : ∀ j, j ≠ 1 → g0 j = h j := fun j hj => by rw [← hg0, up_n hj]
  have T0 : CT g0 kc none := ⟨by rw [← hg0, up_s], by rw [f0 13 (by decide)]; exact C.1.2⟩
  have U0 : CU g0 c (A 3) (A 4) (A 5) (A 6) (A 7) := C.2.1.fr (fun j j1 j2 => f0 j (by omega))
  have G0 : CG g0 (A 9) (A 10) (A 11) (A 12) (nI tc) := C.2.2.1.fr (fun j j1 j2 => f0 j (by omega))
  have M0 : CM g0 A cd c tc bu B := C.2.2.2.1.fr (fun j j1 j2 => f0 j (by omega))
  have P0 : ∀ q, isPlan kc q → CP g0 q (PT q) (A (q + 1)) (A (q + 2)) (A (q + 3)) (A (q + 4)) (A (q + 5)) := fun q hq => (C.2.2.2.2 q hq).fr (fun j j1 j2 => f0 j (by have := hq.ge; omega))
  -- the reference up to its check
  have mstart : ∀ g : XH, CM g A cd c tc bu B → ∃ g2, X_M_build 20 g = D_M_build_12 5000 20 1 g2 ∧ CM g2 A 0 c tc 0 B ∧ ∀ j, j ≠ 20 → g2 j = g j := by
    intro g M
    have M1 := M.code c tc bu B
    have e1 := M.code0
    generalize hg1 : va_up g 20 (mO 0 c (nI tc) bu (nI B)) = g1 at M1 e1
    have s2 : xp g1 4 11 20 (.int 0) = some (va_up g1 20 (mO 0 c (nI tc) 0 (nI B))) := xp_at M1.1 (show 11 < 19 by decide)
    refine ⟨va_up g1 20 (mO 0 c (nI tc) 0 (nI B)), ?_, M1.code c tc 0 B, fun j hj => by rw [up_n hj, ← hg1, up_n hj]⟩
    unfold X_M_build D_M_build_0
    rw [e1, xb1_some, s2, xb1_some]
  unfold X_T_build D_T_build_0
  rw [s1, xb1_some]
  by_cases ok : ∀ j, 1 ≤ j → j ≤ 4 → tonF (A 3) (A 4) (nI j) c ≤ 12
  rotate_left
  · -- no room
    have bad : ∃ j, 1 ≤ j ∧ j ≤ 4 ∧ ¬ tonF (A 3) (A 4) (nI j) c ≤ 12 := by
      apply Classical.byContradiction
      intro z
      exact ok (fun j a b => Classical.byContradiction (fun w => z ⟨j, a, b, w⟩))
    obtain ⟨g2, a1, a2, a3⟩ := mstart g0 M0
    have MU2 := a2.mu
    rw [RU.2.1, RU.2.2.1] at MU2
    refine ⟨-4, n, g0, g2, cchk_no U0 hc T0.u n 4 1 4996 (by omega) bad, M0.i, by rw [a1]; exact mchk_no MU2 hc 4 1 4996 (by omega) bad, ?_⟩
    exact ⟨A, PT, 0, c, tc, kc, B, none, 0, ⟨T0.fr (fun j hj => a3 j (by omega)), U0.fr (fun j j1 j2 => a3 j (by omega)), G0.fr (fun j j1 j2 => a3 j (by omega)), a2, fun q hq => (P0 q hq).fr (fun j j1 j2 => a3 j (by have := hq.ge; omega))⟩, hn, by omega, RU, RG, RD, RK, RelB.none _ _ _ _, RZ⟩
  -- there is room
  obtain ⟨p, n', kc', hq, N, tO, pO, rO, rw, sO, n1, n2, n3, n4, n5, n6, n7, n8, n9, n10⟩ := next_plan (c := c) T0 P0 hn RK.1 RZ
  have hp : 13 < p ∧ (p = 14 ∨ 35 ≤ p) := by omega
  have Uq : CU hq c (A 3) (A 4) (A 5) (A 6) (A 7) := U0.fr (fun j j1 j2 => n8 j (by omega) (by omega) (by omega))
  have Gq : CG hq (A 9) (A 10) (A 11) (A 12) (nI tc) := G0.fr (fun j j1 j2 => n8 j (by omega) (by omega) (by omega))
  have Mq : CM hq A cd c tc bu B := M0.fr (fun j j1 j2 => n8 j (by omega) (by omega) (by omega))
  obtain ⟨cN, hC⟩ : ∃ cN : Nat → Nat, ∀ r, 1 ≤ r → r ≤ c → A 4 r = nI (cN r) ∧ 1 ≤ cN r ∧ cN r ≤ 4 := by
    refine ⟨fun r => (A 4 r).toNatClampNeg, fun r r1 r2 => ?_⟩
    obtain ⟨k, k1, k2, k3⟩ := (RU.2.2.2.2.2 r r1 r2).1
    simp only [k3, nI_clamp (show k < 2 ^ 31 by omega)]
    exact ⟨trivial, k1, k2⟩
  obtain ⟨pN, hN⟩ : ∃ pN : Nat → Nat, ∀ r, 1 ≤ r → r ≤ c → A 3 r = nI (pN r) ∧ pN r ≤ 1000 := by
    refine ⟨fun r => (A 3 r).toNatClampNeg, fun r r1 r2 => ?_⟩
    obtain ⟨k, k1, k2⟩ := (RU.2.2.2.2.2 r r1 r2).2.1
    simp only [k2, nI_clamp (show k < 2 ^ 31 by omega)]
    exact ⟨trivial, k1⟩
  have e24 := RU.2.2.2.2.1
  -- the class alone: the reference's heap is any
  obtain ⟨h2, c1, cf⟩ : ∃ h2, X_P_layOut p 2 8 hq = some h2 ∧ ∀ j, j < p ∨ p + 5 < j → h2 j = hq j := by
    obtain ⟨h2, _, _, _, _, _, _, _, _, _, a1, -, -, -, a5, -⟩ := lay_both (pN := pN) (cN := cN) (cd := cd) (tc := tc) (bu := bu) (B := B) hc RG.1 (by omega) hN hC n5 n6 n7 Gq Uq (Mq.u29 (upd (A 29) 0 0)) (by rw [ua_s, upd_s]) (by rw [ua_n (by decide), e24]) (by rw [ua_n (by decide), RU.2.1]) (by rw [ua_n (by decide), RU.2.2.1])
    exact ⟨h2, a1, a5⟩
  have T2 : CT h2 kc' none := n4.fr (fun j hj => cf j (by omega))
  have s3 : xp h2 0 5 1 (.ref p) = some (va_up h2 1 (.inr (0, [.ref 2, .ref 8, .ref 13, .int (nI kc'), .ref 14, va_rf (some p)]))) := xp_at T2.1 (show 5 < 6 by decide)
  generalize hg3 : va_up h2 1 (.inr (0, [.ref 2, .ref 8, .ref 13, .int (nI kc'), .ref 14, va_rf (some p)])) = h3 at s3
  have f3 : ∀ j, j ≠ 1 → h3 j = h2 j := fun j hj => by rw [← hg3, up_n hj]
  have T3 : CT h3 kc' (some p) := ⟨by rw [← hg3, up_s], by rw [f3 13 (by decide)]; exact T2.2⟩
  have M3 : CM h3 A cd c tc bu B := Mq.fr (fun j j1 j2 => by rw [f3 j (by omega), cf j (by omega)])
  -- the reference
  obtain ⟨g4, a1, a2, a3⟩ := mstart h3 M3
  have MU4 := a2.mu
  rw [RU.2.1, RU.2.2.1] at MU4
  have s5 : xaS g4 29 (0 : Int32) 0 = some (va_up g4 29 (.inl (.int, (41, .inl (upd (A 29) 0 0))))) := xaS_at (i := 0) a2.a29 (by decide) (by decide)
  have M5 := a2.u29 (upd (A 29) 0 0)
  generalize hg5 : va_up g4 29 (.inl (.int, (41, .inl (upd (A 29) 0 0)))) = g5 at s5 M5
  generalize hA5 : ua A 29 (upd (A 29) 0 0) = A5 at M5
  have q5 : ∀ j, j ≠ 29 → A5 j = A j := fun j hj => by rw [← hA5, ua_n hj]
  have MB5 : MB A A5 := ⟨fun j hj => q5 j (by omega), fun b hb => by rw [← hA5, ua_s, upd_n (by omega)], fun i hi => by rw [q5 30 (by decide), q5 31 (by decide), q5 33 (by decide)]; exact ⟨rfl, rfl, rfl⟩, fun i hi => by rw [q5 32 (by decide)]⟩
  obtain ⟨h2', g6, A6, T, S, W, K, Q, ps, rO', b1, b2, b3, b4, b5, b6⟩ := lay_both (pN := pN) (cN := cN) (cd := 0) (tc := tc) (bu := 0) (B := B) hc RG.1 (by omega) hN hC n5 n6 n7 Gq Uq M5 (by rw [← hA5, ua_s, upd_s]) (by rw [q5 24 (by decide), e24]) (by rw [q5 21 (by decide), RU.2.1]) (by rw [q5 22 (by decide), RU.2.2.1])
  obtain rfl : h2' = h2 := by
    rw [c1] at b1
    exact (Option.some.inj b1).symm
  have M6 : CM g6 A6 0 c tc 0 B := b3.1.2.2.1
  obtain ⟨tO1, pO1, rw1, sO1, CP1, pl, z1, z2, bw, bk, al⟩ := b3.plan hC
  have MB6 : MB A A6 := MB5.trans b4
  have hT := bw.1
  have hS := bw.2.2.1
  have CP3 : CP h3 p T tO1 pO1 rO' rw1 sO1 := CP1.fr (fun j j1 j2 => f3 j (by omega))
  have eB : xp g6 4 11 20 (.int 1) = some (va_up g6 20 (mO 0 c (nI tc) 1 (nI B))) := xp_at M6.1 (show 11 < 19 by decide)
  have M7 := M6.code c tc 1 B
  generalize hg7 : va_up g6 20 (mO 0 c (nI tc) 1 (nI B)) = g7 at eB M7
  have eC : xp g7 4 12 20 (.int (nI (B + 1))) = some (va_up g7 20 (mO 0 c (nI tc) 1 (nI (B + 1)))) := xp_at M7.1 (show 12 < 19 by decide)
  have M8 := M7.code c tc 1 (B + 1)
  generalize hg8 : va_up g7 20 (mO 0 c (nI tc) 1 (nI (B + 1))) = g8 at eC M8
  have f8 : ∀ j, j ≠ 20 → (j < 29 ∨ 34 < j) → g8 j = h3 j := fun j j1 j2 => by rw [← hg8, up_n j1, ← hg7, up_n j1, b6 j j2, ← hg5, up_n (by omega), a3 j j1]
  -- kept or not
  obtain ⟨g9, A9, k1, k2, k3, k4, k5, k6, k7, k8⟩ : ∃ g9 A9, D_M_build_45 4996 20 5 g6 = D_M_build_93 20 g9 ∧ CM g9 A9 0 c tc 1 (B + 1) ∧ (∀ j, j ≠ 20 → (j < 29 ∨ 34 < j) → g9 j = h3 j) ∧ (∀ j, j < 29 ∨ 34 < j → A9 j = A j) ∧ BlockIs T S W K Q 0 (A9 29) (A9 30) (A9 31) (A9 32) (A9 33) ∧ A9 34 = A6 34 ∧ (∀ b T' S' W' K' Q', 1 ≤ b → b ≠ B + 1 → T' ≤ 24 → S' T' ≤ 24 → BlockIs T' S' W' K' Q' b (A 29) (A 30) (A 31) (A 32) (A 33) → BlockIs T' S' W' K' Q' b (A9 29) (A9 30) (A9 31) (A9 32) (A9 33)) ∧ (B + 1 ≤ 40 → BlockIs T S W K Q (B + 1) (A9 29) (A9 30) (A9 31) (A9 32) (A9 33)) := by
    have body : D_M_build_45 4996 20 5 g6 = if (40 : Int32) < nI (B + 1) then D_M_build_93 20 g8 else xb1 (X_M_keep 20 (nI (B + 1)) g8) fun h13 => D_M_build_93 20 h13 := by
      have step : ∀ f, D_M_build_45 (f + 1) 20 5 g6 = if (40 : Int32) < nI (B + 1) then D_M_build_93 20 g8 else xb1 (X_M_keep 20 (nI (B + 1)) g8) fun h13 => D_M_build_93 20 h13 := by
        intro f
        simp only [D_M_build_45, eB, xb1_some, M7.gbs, nI_1, eC, M8.gbs, M8.i, xchk_true]
        rw [if_pos (show (4 : Int32) < 5 by decide)]
      exact step 4995
    rw [body]
    by_cases q : B + 1 ≤ 40
    · rw [if_neg (show ¬ (40 : Int32) < nI (B + 1) from nI_nlt (a := 40) (by omega) (by decide))]
      obtain ⟨g9, u1, u2, u3⟩ := keep_eq (b := B + 1) ⟨by omega, q⟩ M8
      refine ⟨g9, KA A6 (B + 1) 24 25, by rw [u1, xb1_some], u2, fun j j1 j2 => by rw [u3 j j2, f8 j j1 j2], fun j hj => by rw [KA_n (by omega), MB6.1 j hj], KA.block0 (by omega) hT hS bk, KA_n (by omega), fun b T' S' W' K' Q' w1 w2 w3 w4 w5 => KA.blockn w2 w3 w4 (MB6.block w1 w5), fun _ => KA.blockb hT hS bk⟩
    · rw [if_pos (show (40 : Int32) < nI (B + 1) from nI_lt (a := 40) (by omega) (by omega))]
      exact ⟨g8, A6, rfl, M8, f8, MB6.1, bk, rfl, fun b T' S' W' K' Q' w1 w2 w3 w4 w5 => MB6.block w1 w5, fun w => absurd w q⟩
  refine ⟨nI T, n', h3, g9, ?_, M3.i, ?_, ?_⟩
  · have step : ∀ f, D_T_build_7 (f + 1) 1 5 n g0 = some (nI T, n', h3) := by
      intro f
      simp only [D_T_build_7, T0.i, xchk_true, n1, xb3_some, n4.u, n4.g, xb1_some, n5.i, c1, s3, CP3.cn]
      rw [if_pos (show (4 : Int32) < 5 by decide)]
    rw [show D_T_build_7 5000 1 1 n g0 = _ from cchk_ok U0 hc T0.u n 4 1 4996 (by omega) ok]
    exact step 4995
  · have step : ∀ f, D_M_build_12 (f + 1) 20 5 g4 = D_M_build_45 5000 20 1 g5 := by
      intro f
      simp only [D_M_build_12, a2.g13, xb1_some, s5]
      rw [if_pos (show (4 : Int32) < 5 by decide)]
    rw [a1, show D_M_build_12 5000 20 1 g4 = _ from mchk_ok MU4 hc 4 1 4996 (by omega) ok, show D_M_build_12 4996 20 5 g4 = _ from step 4995, b2, k1]
    unfold D_M_build_93
    have e0 : xaI g9 29 (0 : Int32) = some (nI T) := by rw [← k5.1]; exact xaI_at (i := 0) k2.a29 (by decide) (by decide)
    rw [k2.g13, xb1_some, e0, xb1_some]
  · -- the state behind it
    obtain ⟨F, hF⟩ : ∃ F, F = pa A9 p tO1 pO1 rO' rw1 sO1 := ⟨_, rfl⟩
    have Fn : ∀ j, j ≤ p ∨ p + 5 < j → F j = A9 j := fun j hj => by rw [hF, pa_n hj]
    have F1 : F (p + 1) = tO1 := by rw [hF, pa_1]
    have F2 : F (p + 2) = pO1 := by rw [hF, pa_2]
    have F3 : F (p + 3) = rO' := by rw [hF, pa_3]
    have F4 : F (p + 4) = rw1 := by rw [hF, pa_4]
    have F5 : F (p + 5) = sO1 := by rw [hF, pa_5]
    have Fl : ∀ j, j < 14 ∨ (20 ≤ j ∧ j < 29) → F j = A j := fun j hj => by rw [Fn j (by omega), k4 j (by omega)]
    have Fm : ∀ j, 20 ≤ j → j ≤ 34 → F j = A9 j := fun j h1 h2 => Fn j (by omega)
    have Fq : ∀ q, isPlan kc q → q ≠ p → ∀ i, i ≤ 5 → F (q + i) = A (q + i) := fun q hq' hne i hi => by
      have : (q = 14 ∨ ∃ i, i < kc ∧ q = 35 + 6 * i) := hq'
      have d : q + 5 < p ∨ p + 5 < q := by
        rcases this with z | ⟨i, z1, z2⟩
        · omega
        · rcases n10 with ⟨w1, w2, w3⟩ | ⟨w1, w2, w3, w4⟩ <;> omega
      rw [Fn _ (by omega), k4 _ (by rcases this with z | ⟨i, z1, z2⟩ <;> omega)]
    have old : ∀ q, isPlan kc' q → q ≠ p → isPlan kc q := fun q hq' hne => by
      rcases hq' with z | ⟨i, z1, z2⟩
      · exact Or.inl z
      · rcases n10 with ⟨w1, w2, w3⟩ | ⟨w1, w2, w3, w4⟩
        · exact Or.inr ⟨i, by omega, z2⟩
        · exact Or.inr ⟨i, by omega, z2⟩
    have fr : ∀ j, j ≠ 1 → j ≠ 13 → j ≠ 20 → (j < 29 ∨ 34 < j) → (j < p ∨ p + 5 < j) → g9 j = h j := fun j j1 j2 j3 j4 j5 => by rw [k3 j j3 j4, f3 j j1, cf j j5, n8 j j1 j2 j5, f0 j j1]
    have m29 := Fm 29 (by decide) (by decide)
    have m30 := Fm 30 (by decide) (by decide)
    have m31 := Fm 31 (by decide) (by decide)
    have m32 := Fm 32 (by decide) (by decide)
    have m33 := Fm 33 (by decide) (by decide)
    refine ⟨F, fun q => if q = p then T else PT q, 0, c, tc, kc', B + 1, some p, 1, ⟨T3.fr (fun j hj => k3 j (by omega) (by omega)), ?_, ?_, k2.co (fun j j1 j2 => Fm j (by omega) j2), fun q hq' => ?_⟩, n2, by omega, ?_, ?_, ?_, ⟨n3, fun i hi => ?_⟩, ⟨fun z => by (cases z), fun q e => ?_⟩, ?_⟩
    · rw [Fl 3 (by decide), Fl 4 (by decide), Fl 5 (by decide), Fl 6 (by decide), Fl 7 (by decide)]
      exact C.2.1.fr (fun j j1 j2 => fr j (by omega) (by omega) (by omega) (by omega) (by omega))
    · rw [Fl 9 (by decide), Fl 10 (by decide), Fl 11 (by decide), Fl 12 (by decide)]
      exact C.2.2.1.fr (fun j j1 j2 => fr j (by omega) (by omega) (by omega) (by omega) (by omega))
    · by_cases e : q = p
      · subst e
        rw [show (fun z => if z = q then T else PT z) q = T from if_pos rfl, F1, F2, F3, F4, F5]
        exact CP3.fr (fun j j1 j2 => k3 j (by omega) (by omega))
      · have o := old q hq' e
        rw [show (fun z => if z = p then T else PT z) q = PT q from if_neg e, Fq q o e 1 (by decide), Fq q o e 2 (by decide), Fq q o e 3 (by decide), Fq q o e 4 (by decide), Fq q o e 5 (by decide)]
        refine (C.2.2.2.2 q o).fr (fun j j1 j2 => ?_)
        have oo : (q = 14 ∨ ∃ i, i < kc ∧ q = 35 + 6 * i) := o
        have d : q + 5 < p ∨ p + 5 < q := by
          rcases oo with z | ⟨i, v1, v2⟩
          · omega
          · rcases n10 with ⟨w1, w2, w3⟩ | ⟨w1, w2, w3, w4⟩ <;> omega
        have d2 : q = 14 ∨ 35 ≤ q := o.ge
        exact fr j (by omega) (by omega) (by omega) (by omega) (by omega)
    · unfold RelU
      rw [Fl 21 (by decide), Fl 22 (by decide), Fl 23 (by decide), Fl 24 (by decide), Fl 3 (by decide), Fl 4 (by decide), Fl 5 (by decide), Fl 9 (by decide)]
      exact RU
    · unfold RelG
      rw [Fl 9 (by decide), Fl 10 (by decide), Fl 12 (by decide), Fl 27 (by decide)]
      exact RG
    · unfold RelD
      rw [Fl 6 (by decide), Fl 7 (by decide), Fl 25 (by decide), Fl 26 (by decide)]
      exact RD
    · rw [Fl 3 (by decide), Fl 4 (by decide), m29, m30, m31, m32, m33]
      by_cases e : 35 + 6 * i = p
      · rcases n10 with ⟨w1, w2, w3⟩ | ⟨w1, w2, w3, w4⟩
        · omega
        · have ei : i = B := by omega
          rw [e, F1, F2, F3, F4, F5, ei]
          simp only [if_pos]
          exact ⟨T, S, W, K, Q, bw, pl, k8 (by omega)⟩
      · have hik : i < kc := by
          rcases n10 with ⟨w1, w2, w3⟩ | ⟨w1, w2, w3, w4⟩ <;> omega
        obtain ⟨T', S', W', K', Q', y1, y2, y3⟩ := RK.2 i hik
        have o : isPlan kc (35 + 6 * i) := Or.inr ⟨i, hik, rfl⟩
        rw [Fq _ o e 1 (by decide), Fq _ o e 2 (by decide), Fq _ o e 3 (by decide), Fq _ o e 4 (by decide), Fq _ o e 5 (by decide)]
        simp only [if_neg e]
        have kk := RK.1
        exact ⟨T', S', W', K', Q', y1, y2, k7 (i + 1) T' S' W' K' Q' (by omega) (by omega) y1.1 y1.2.2.1 y3⟩
    · obtain rfl : p = q := Option.some.inj e
      rw [F1, F2, F3, F4, F5, Fl 3 (by decide), Fl 4 (by decide), m29, m30, m31, m32, m33, Fm 34 (by decide) (by decide), k6]
      simp only [if_pos]
      exact ⟨trivial, n9, T, S, W, K, Q, bw, pl, k5, al⟩
    · rcases n10 with ⟨w1, w2, w3⟩ | ⟨w1, w2, w3, w4⟩
      · subst w1
        exact ⟨by rw [F5]; exact z1, fun r h1 h2 => by rw [F1]; exact z2 r h1 h2⟩
      · unfold RelZ
        rw [Fn 15 (by omega), Fn 19 (by omega), k4 15 (by decide), k4 19 (by decide)]
        exact RZ

/-! task, order, rank, table, budget -/
theorem op_task {m n : Nat} {h : XH} (I : Inv m n h) (x : Int32) : ∃ v h', X_T_task 1 x h = some v ∧ X_M_task 20 x h = some (v, h') ∧ Inv m n h' := by
  obtain ⟨A, PT, cd, c, tc, kc, B, bl, bu, C, hn, hB, RU, RG, RD, RK, RB, RZ⟩ := I
  have C1 := C.code
  have M1 := C1.2.2.2.1
  refine ⟨if 1 ≤ x ∧ x ≤ nI c then (if bu = 0 then -3 else A 34 x.toNatClampNeg) else -1, va_up h 20 (mO 0 c (nI tc) bu (nI B)), ?_, ?_, ⟨A, PT, 0, c, tc, kc, B, bl, bu, C1, hn, hB, RU, RG, RD, RK, RB, RZ⟩⟩
  · unfold X_T_task D_T_task_0
    rw [C.1.u, xb1_some, C.2.1.i, xchk_true, has_eq C.2.1, xb1_some]
    by_cases q : 1 ≤ x ∧ x ≤ nI c
    · rw [if_pos q, if_neg (by decide), if_pos q, C.1.b, xb1_some]
      obtain ⟨r, r1, r2, rfl⟩ := in_rng (by have := RU.1; omega) q
      cases bl with
      | none => rw [xq_none, if_pos (RB.1 rfl)]
      | some p =>
        obtain ⟨b1, b2, T, S, W, K, Q, bw, pl, bk, al⟩ := RB.2 p rfl
        have hc := RU.1
        have P := C.2.2.2.2 p b2
        rw [xq_some, b1, if_neg (by decide), xb1_some, xq_some, P.ta, xb1_some, xaI_at P.2.1 (show r < 25 by omega) (by decide), xb1_some, nI_clamp (by omega)]
        obtain ⟨t, i, t1, t2, t3, t4, t5⟩ := al r r1 r2
        rw [t5, ← t4, pl.2.2.2.2.2.1 t i t1 t2 t3]
    · rw [if_neg q, if_pos rfl, if_neg q]
  · unfold X_M_task D_M_task_0 D_M_task_35
    rw [C.2.2.2.1.code0, xb1_some, M1.i, xchk_true, isRunnable_eq M1.mu, xb1_some]
    by_cases q : 1 ≤ x ∧ x ≤ nI c
    · rw [if_pos q, if_neg (by decide), if_pos q, M1.gbu, xb1_some]
      obtain ⟨r, r1, r2, rfl⟩ := in_rng (by have := RU.1; omega) q
      have hc := RU.1
      by_cases z : bu = 0
      · rw [if_pos z, if_pos z]
      · rw [if_neg z, if_neg z, M1.g18, xb1_some, xaI_at M1.a34 (show r < 25 by omega) (by decide), xb1_some, nI_clamp (by omega)]
    · rw [if_neg q, if_pos rfl, if_neg q]
section B1
variable {h : XH} {A : Nat → Nat → Int32} {PT : Nat → Nat} {cd : Int32} {c tc kc B : Nat} {bl : Option Nat} {bu : Int32} {m n : Nat}
/-- the form of those that ask for what is built first -/
theorem built_cases (C : Cells h A PT cd c tc kc B bl bu) (RB : RelB A PT c kc bl bu) : (bl = none ∧ bu = 0) ∨ ∃ p T S W K Q, bl = some p ∧ bu = 1 ∧ isPlan kc p ∧ CP h p T (A (p + 1)) (A (p + 2)) (A (p + 3)) (A (p + 4)) (A (p + 5)) ∧ BW c (A 3) (A 4) T S W K Q ∧ PlanIs T S W K Q T (A (p + 1)) (A (p + 2)) (A (p + 3)) (A (p + 4)) (A (p + 5)) ∧ BlockIs T S W K Q 0 (A 29) (A 30) (A 31) (A 32) (A 33) ∧ (∀ r, 1 ≤ r → r ≤ c → ∃ t i, t < T ∧ S t ≤ i ∧ i < S (t + 1) ∧ W i = r ∧ A 34 r = nI (t + 1)) := by
  cases bl with
  | none => exact Or.inl ⟨rfl, RB.1 rfl⟩
  | some p =>
    obtain ⟨b1, b2, T, S, W, K, Q, bw, pl, bk, al⟩ := RB.2 p rfl
    have P := C.2.2.2.2 p b2
    have e := pl.1
    rw [e] at P pl
    exact Or.inr ⟨p, T, S, W, K, Q, rfl, b1, b2, P, bw, pl, bk, al⟩
end B1
theorem op_order {m n : Nat} {h : XH} (I : Inv m n h) (x y : Int32) : ∃ v h', X_T_order 1 x y h = some v ∧ X_M_order 20 x y h = some (v, h') ∧ Inv m n h' := by
  obtain ⟨A, PT, cd, c, tc, kc, B, bl, bu, C, hn, hB, RU, RG, RD, RK, RB, RZ⟩ := I
  have C1 := C.code
  have M1 := C1.2.2.2.1
  have I1 : Inv m n (va_up h 20 (mO 0 c (nI tc) bu (nI B))) := ⟨A, PT, 0, c, tc, kc, B, bl, bu, C1, hn, hB, RU, RG, RD, RK, RB, RZ⟩
  unfold X_T_order D_T_order_0 X_M_order D_M_order_0 D_M_order_68 D_M_order_69
  simp only [C.1.b, C.2.2.2.1.code0, xb1_some, M1.gbu]
  rcases built_cases C RB with ⟨rfl, rfl⟩ | ⟨p, T, S, W, K, Q, rfl, rfl, b2, P, bw, pl, bk, al⟩
  · exact ⟨-3, _, rfl, rfl, I1⟩
  · simp only [xq_some, P.i, xchk_true, hasTask_eq P, xb1_some, M1.i, misTask_eq M1 bk.1, w01i]
    simp only [if_neg (show ¬ (1 : Int32) = 0 by decide)]
    by_cases q : 1 ≤ x ∧ x ≤ nI T
    · simp only [if_neg (fun z => z q : ¬ ¬ (1 ≤ x ∧ x ≤ nI T))]
      have hT := bw.1
      obtain ⟨t, t1, t2, rfl⟩ := in_rng (by omega) q
      obtain ⟨t, rfl⟩ : ∃ u, t = u + 1 := ⟨t - 1, by omega⟩
      have f0 : X_M_from 20 0 (nI t) _ = _ := from_eq M1 bk bw (by decide : 0 ≤ 40) (show t ≤ T by omega)
      have en := (bk.2.1 t (by omega)).2.2
      rw [show 25 * 0 + (t + 1) = t + 1 by omega] at en
      simp only [runnableAt_eq P pl bw (show t < T by omega), xb1_some, nI_pred, f0, M1.g16, xaI_at M1.a32 (show t + 1 < 1025 by omega) (by decide), en, pk_sub (bw.mono t (t + 1) (by omega) (by omega)), M1.g17]
      refine ⟨_, va_up h 20 (mO 0 c (nI tc) 1 (nI B)), rfl, ?_, I1⟩
      have h1 := bw.le (show t + 1 ≤ T by omega)
      unfold ordF
      rcases i_cases y with z | ⟨j, hj, rfl⟩
      · rw [if_pos z, if_pos (Or.inl z)]
      · rw [if_neg (nI_pos hj)]
        by_cases w : nI (S (t + 1) - S t) ≤ nI j
        · rw [if_pos w, if_pos (Or.inr w)]
        · rw [if_neg w, if_neg (fun z => z.elim (nI_pos hj) w)]
          have q2 : j < S (t + 1) - S t := by
            rcases Nat.lt_or_ge j (S (t + 1) - S t) with z | z
            · exact z
            · exact absurd (nI_le z hj) w
          have h2 := bw.mono (t + 1) T (by omega) (Nat.le_refl T)
          have ro := bk.2.2 (S t + j) (by omega)
          rw [show 24 * 0 + (S t + j) = S t + j by omega] at ro
          rw [nI_add, xaI_at M1.a33 (show S t + j < 984 by omega) (by decide), xb1_some, ro, nI_clamp hj]
    · simp only [if_pos q]
      exact ⟨-1, _, rfl, rfl, I1⟩
theorem op_rank {m n : Nat} {h : XH} (I : Inv m n h) (x : Int32) : ∃ v h', X_T_rank 1 x h = some v ∧ X_M_rank 20 x h = some (v, h') ∧ Inv m n h' := by
  obtain ⟨A, PT, cd, c, tc, kc, B, bl, bu, C, hn, hB, RU, RG, RD, RK, RB, RZ⟩ := I
  have C1 := C.code
  have M1 := C1.2.2.2.1
  have I1 : Inv m n (va_up h 20 (mO 0 c (nI tc) bu (nI B))) := ⟨A, PT, 0, c, tc, kc, B, bl, bu, C1, hn, hB, RU, RG, RD, RK, RB, RZ⟩
  unfold X_T_rank D_T_rank_0 X_M_rank D_M_rank_0 D_M_rank_34
  simp only [C.1.b, C.2.2.2.1.code0, xb1_some, M1.gbu]
  rcases built_cases C RB with ⟨rfl, rfl⟩ | ⟨p, T, S, W, K, Q, rfl, rfl, b2, P, bw, pl, bk, al⟩
  · exact ⟨-3, _, rfl, rfl, I1⟩
  · simp only [xq_some, P.i, xchk_true, hasTask_eq P, xb1_some, M1.i, misTask_eq M1 bk.1, w01i]
    simp only [if_neg (show ¬ (1 : Int32) = 0 by decide)]
    by_cases q : 1 ≤ x ∧ x ≤ nI T
    · simp only [if_neg (fun z => z q : ¬ ¬ (1 ≤ x ∧ x ≤ nI T))]
      have hT := bw.1
      obtain ⟨t, t1, t2, rfl⟩ := in_rng (by omega) q
      simp only [P.ra, xb1_some, xaI_at P.2.2.2.1 (show t < 25 by omega) (by decide), pl.2.2.2.2.1 t t1 t2, rankOf_eq M1 bk hT t1 t2]
      exact ⟨_, _, rfl, rfl, I1⟩
    · simp only [if_pos q]
      exact ⟨-1, _, rfl, rfl, I1⟩
theorem op_table {m n : Nat} {h : XH} (I : Inv m n h) (x y : Int32) : ∃ v h', X_T_table 1 x y h = some v ∧ X_M_table 20 x y h = some (v, h') ∧ Inv m n h' := by
  obtain ⟨A, PT, cd, c, tc, kc, B, bl, bu, C, hn, hB, RU, RG, RD, RK, RB, RZ⟩ := I
  have C1 := C.code
  have M1 := C1.2.2.2.1
  have I1 : Inv m n (va_up h 20 (mO 0 c (nI tc) bu (nI B))) := ⟨A, PT, 0, c, tc, kc, B, bl, bu, C1, hn, hB, RU, RG, RD, RK, RB, RZ⟩
  unfold X_T_table D_T_table_0 X_M_table D_M_table_0
  simp only [C.1.b, C.2.2.2.1.code0, xb1_some, M1.gbu]
  by_cases q : 0 ≤ x
  · simp only [if_pos q]
    rcases built_cases C RB with ⟨rfl, rfl⟩ | ⟨p, T, S, W, K, Q, rfl, rfl, b2, P, bw, pl, bk, al⟩
    · exact ⟨-3, _, rfl, rfl, I1⟩
    · simp only [xq_some, P.i, xchk_true, xb1_some]
      simp only [if_neg (show ¬ (1 : Int32) = 0 by decide)]
      have hT := bw.1
      obtain ⟨v, v1, v2⟩ := table_loop P pl M1 bk hT x y T 0 5000 0 (by omega) (by omega)
      have v1 : X_P_startAt p x y h = some v := v1
      rw [v1, xb1_some]
      exact ⟨v, _, rfl, v2, I1⟩
  · simp only [if_neg q]
    exact ⟨-2, _, rfl, rfl, I1⟩
theorem op_budget {m n : Nat} {h : XH} (I : Inv m n h) (x : Int32) (y : Int64) : ∃ v h', X_T_budget 1 x y h = some v ∧ X_M_budget 20 x y h = some (v, h') ∧ Inv m n h' := by
  obtain ⟨A, PT, cd, c, tc, kc, B, bl, bu, C, hn, hB, RU, RG, RD, RK, RB, RZ⟩ := I
  have C1 := C.code
  have M1 := C1.2.2.2.1
  have I1 : Inv m n (va_up h 20 (mO 0 c (nI tc) bu (nI B))) := ⟨A, PT, 0, c, tc, kc, B, bl, bu, C1, hn, hB, RU, RG, RD, RK, RB, RZ⟩
  unfold X_T_budget D_T_budget_0 X_M_budget D_M_budget_0 D_T_budget_55
  simp only [C.1.b, C.2.2.2.1.code0, xb1_some, M1.gbu]
  rcases built_cases C RB with ⟨rfl, rfl⟩ | ⟨p, T, S, W, K, Q, rfl, rfl, b2, P, bw, pl, bk, al⟩
  · exact ⟨-3, _, rfl, rfl, I1⟩
  · simp only [xq_some, P.i, xchk_true, hasTask_eq P, xb1_some, M1.i, misTask_eq M1 bk.1, w01i]
    simp only [if_neg (show ¬ (1 : Int32) = 0 by decide)]
    by_cases q : 1 ≤ x ∧ x ≤ nI T
    · simp only [if_neg (fun z => z q : ¬ ¬ (1 ≤ x ∧ x ≤ nI T))]
      by_cases z : 0 ≤ lg_cmp y 0
      · simp only [if_pos z]
        have hT := bw.1
        obtain ⟨t, t1, t2, rfl⟩ := in_rng (by omega) q
        obtain ⟨t, rfl⟩ : ∃ u, t = u + 1 := ⟨t - 1, by omega⟩
        have f0 : X_M_from 20 0 (nI t) _ = _ := from_eq M1 bk bw (by decide : 0 ≤ 40) (show t ≤ T by omega)
        obtain ⟨sN, hs⟩ : ∃ sN : Nat → Nat, ∀ r, 1 ≤ r → r ≤ c → A 5 r = nI (sN r) ∧ sN r ≤ 100000 := by
          refine ⟨fun r => (A 5 r).toNatClampNeg, fun r r1 r2 => ?_⟩
          obtain ⟨k, k1, k2⟩ := (RU.2.2.2.2.2 r r1 r2).2.2
          simp only [k2, nI_clamp (show k < 2 ^ 31 by omega)]
          exact ⟨trivial, k1⟩
        have h1 := bw.le (show t + 1 ≤ T by omega)
        have h4 := bw.mono t (t + 1) (by omega) (by omega)
        have l1 := steps_loop C.2.1 P pl bw RU.1 (fun r r1 r2 => (hs r r1 r2).1) (show t < T by omega) (S (t + 1) - S t) 0 5000 (by omega) (by omega)
        have l2 := msteps_loop M1 bk bw RU.1 (fun r r1 r2 => by rw [RU.2.2.2.1]; exact hs r r1 r2) y (show t < T by omega) (S (t + 1) - S t) 0 5000 (by omega) (by omega)
        have l3 : X_P_stepsOf p (nI (t + 1)) 2 h = some (nI (stF sN W (S t) (S (t + 1) - S t))) := by
          unfold X_P_stepsOf D_P_stepsOf_0
          rw [P.st, xb1_some, xaI_at P.2.2.2.2.2 (show t + 1 < 26 by omega) (by decide), xb1_some, pl.2.1 t (by omega)]
          exact l1
        have l2 : D_M_budget_47 5000 20 (nI (t + 1)) y 0 (nI (S t)) _ = _ := l2
        have l4 := stF_le (sN := sN) (W := W) (a := S t) (n := S (t + 1) - S t) (fun i hi => by
          obtain ⟨w1, w2, -⟩ := bw.2.2.2.2.1 t (S t + i) (by omega) (by omega) (by omega)
          exact (hs _ w1 w2).2) _ (Nat.le_refl _)
        simp only [C.1.u, xb1_some, l3, nI_pred, f0, l2, nI_l (show stF sN W (S t) (S (t + 1) - S t) < 2 ^ 31 by omega)]
        refine ⟨_, _, ?_, rfl, I1⟩
        by_cases w : 0 < lg_cmp (lN (stF sN W (S t) (S (t + 1) - S t))) y
        · rw [if_pos w, if_pos w]
        · rw [if_neg w, if_neg w]
      · simp only [if_neg z]
        exact ⟨-2, _, rfl, rfl, I1⟩
    · simp only [if_pos q]
      exact ⟨-1, _, rfl, rfl, I1⟩

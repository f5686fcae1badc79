/-! differ(other) -/
/-- task t + 1 of the one build is as task u + 1 of the other -/
def smF (S W : Nat → Nat) (K Q : Nat → Int32) (S' W' : Nat → Nat) (K' Q' : Nat → Int32) (t u : Nat) : Bool := decide (K (t + 1) = K' (u + 1) ∧ Q (t + 1) = Q' (u + 1) ∧ S' (u + 1) - S' u = S (t + 1) - S t ∧ ∀ j, j < S (t + 1) - S t → W (S t + j) = W' (S' u + j))
theorem ordF_in {S W : Nat → Nat} {t j : Nat} (hj : j < S (t + 1) - S t) (hS : S (t + 1) ≤ 24) : ordF S W t (nI j) = nI (W (S t + j)) := by
  unfold ordF
  rw [if_neg, nI_clamp (by omega)]
  rintro (q | q)
  · exact nI_pos (by omega) q
  · exact nI_ge hj (by omega) q
section Df
variable {h h1 : XH} {A : Nat → Nat → Int32} {cd : Int32} {c tc B : Nat} {bu : Int32} {p p' T T' b : Nat} {S W S' W' : Nat → Nat} {K Q K' Q' pe co : Nat → Int32} {tO pO rO rw sO tO' pO' rO' rw' sO' : Nat → Int32}
theorem BW.one (H : BW c pe co T S W K Q) {t u i : Nat} (ht : t < T) (hu : u < T) (h1 : S t ≤ i) (h2 : i < S (t + 1)) (h3 : S u ≤ i) (h4 : i < S (u + 1)) : t = u := by
  rcases Nat.lt_trichotomy t u with q | q | q
  · have := H.mono (t + 1) u (by omega) (by omega); omega
  · exact q
  · have := H.mono (u + 1) t (by omega) (by omega); omega
theorem stands_loop (P : CP h p T tO pO rO rw sO) (L : PlanIs T S W K Q T tO pO rO rw sO) (hb : BW c pe co T S W K Q) (P' : CP h p' T' tO' pO' rO' rw' sO') (L' : PlanIs T' S' W' K' Q' T' tO' pO' rO' rw' sO') (hb' : BW c pe co T' S' W' K' Q') (hc : c ≤ 24) {t u : Nat} (ht : t < T) (hu : u < T') (es : S' (u + 1) - S' u = S (t + 1) - S t) : ∀ k j f, j + k = S (t + 1) - S t → k < f → (∀ i, i < j → W (S t + i) = W' (S' u + i)) → D_P_standsIn_38 f p p' (nI (t + 1)) (nI (u + 1)) (nI j) h = some (b2i (decide (∀ j, j < S (t + 1) - S t → W (S t + j) = W' (S' u + j)))) := by
  have l1 := hb.le (show t + 1 ≤ T by omega)
  have l2 := hb'.le (show u + 1 ≤ T' by omega)
  intro k
  induction k with
  | zero =>
    intro j f hj hf ha
    obtain ⟨f, rfl⟩ : ∃ g, f = g + 1 := ⟨f - 1, by omega⟩
    simp only [D_P_standsIn_38, P.i, xchk_true, sizeOf_eq P L hb ht, xb1_some]
    rw [if_pos (nI_le (by omega) (by omega)), decide_eq_true (fun i hi => ha i (by omega))]
    rfl
  | succ k ih =>
    intro j f hj hf ha
    obtain ⟨f, rfl⟩ : ∃ g, f = g + 1 := ⟨f - 1, by omega⟩
    simp only [D_P_standsIn_38, P.i, P'.i, xchk_true, sizeOf_eq P L hb ht, runnableAt_eq P L hb ht, runnableAt_eq P' L' hb' hu, xb1_some, ordF_in (W := W) (show j < S (t + 1) - S t by omega) l1, ordF_in (W := W') (show j < S' (u + 1) - S' u by omega) l2, nI_1]
    rw [if_neg (nI_ge (by omega) (by omega))]
    have b1 := hb.2.2.2.2.1 t (S t + j) ht (by omega) (by omega)
    have b2 := hb'.2.2.2.2.1 u (S' u + j) hu (by omega) (by omega)
    by_cases e : W (S t + j) = W' (S' u + j)
    · rw [if_pos (by rw [e])]
      exact ih (j + 1) f (by omega) (by omega) (fun i hi => by
        by_cases q : i = j
        · rw [q]; exact e
        · exact ha i (by omega))
    · rw [if_neg (fun q => e ((nI_eq (by omega) (by omega)).mp q).symm), decide_eq_false (fun q => e (q j (by omega)))]
      rfl
theorem stands_eq (P : CP h p T tO pO rO rw sO) (L : PlanIs T S W K Q T tO pO rO rw sO) (hb : BW c pe co T S W K Q) (P' : CP h p' T' tO' pO' rO' rw' sO') (L' : PlanIs T' S' W' K' Q' T' tO' pO' rO' rw' sO') (hb' : BW c pe co T' S' W' K' Q') (hc : c ≤ 24) {t : Nat} (ht : t < T) : X_P_standsIn p p' (nI (t + 1)) h = some (b2i (orF (fun u => smF S W K Q S' W' K' Q' t (u - 1)) T')) := by
  have l1 := hb.le (show t + 1 ≤ T by omega)
  have st := hb.2.2.2.1 t ht
  have hT := hb'.1
  have w0 := hb.2.2.2.2.1 t (S t) ht (by omega) (by omega)
  have m1 := hb.mono (t + 1) T (by omega) (Nat.le_refl T)
  have o0 : ordF S W t 0 = nI (W (S t)) := ordF_in (W := W) (j := 0) (show 0 < S (t + 1) - S t by omega) l1
  unfold X_P_standsIn D_P_standsIn_0 D_P_standsIn_33
  simp only [P'.ta, xb1_some, P.i, xchk_true, runnableAt_eq P L hb ht, o0, xaI_at P'.2.1 (show W (S t) < 25 by omega) (by decide), P'.i, hasTask_eq P', w01i]
  by_cases hin : ∃ i, i < S' T' ∧ W' i = W (S t)
  · obtain ⟨i, i1, i2⟩ := hin
    obtain ⟨u, u1, u2, u3⟩ : ∃ u, u < T' ∧ S' u ≤ i ∧ i < S' (u + 1) := by
      have : ∀ n, n ≤ T' → i < S' n → ∃ u, u < n ∧ S' u ≤ i ∧ i < S' (u + 1) := by
        intro n
        induction n with
        | zero => intro _ h; rw [hb'.2.1] at h; omega
        | succ n ih =>
          intro hn hi
          rcases Nat.lt_or_ge i (S' n) with q | q
          · obtain ⟨u, a, b⟩ := ih (by omega) q
            exact ⟨u, by omega, b⟩
          · exact ⟨n, by omega, q, hi⟩
      exact this T' (Nat.le_refl _) i1
    have e : tO' (W (S t)) = nI (u + 1) := by rw [← i2]; exact L'.2.2.2.2.2.1 u i u1 u2 u3
    have st' := hb'.2.2.2.1 u u1
    have l2 := hb'.le (show u + 1 ≤ T' by omega)
    have m2 := hb'.mono (u + 1) T' (by omega) (Nat.le_refl T')
    rw [e, if_neg (fun z => z ⟨nI_le (a := 1) (by omega) (by omega), nI_le (by omega) (by omega)⟩), sizeOf_eq P' L' hb' u1, xb1_some, sizeOf_eq P L hb ht, xb1_some]
    have only : ∀ v, v < T' → smF S W K Q S' W' K' Q' t v = true → v = u := by
      intro v v1 v2
      have v2 := of_decide_eq_true v2
      have sv := hb'.2.2.2.1 v v1
      have m3 := hb'.mono (v + 1) T' (by omega) (Nat.le_refl T')
      have q := v2.2.2.2 0 (by omega)
      have q := hb'.2.2.2.2.2 i (S' v + 0) i1 (by omega) (by rw [i2]; exact q)
      exact hb'.one v1 u1 (i := i) (by omega) (by omega) u2 u3
    have ex : orF (fun u => smF S W K Q S' W' K' Q' t (u - 1)) T' = smF S W K Q S' W' K' Q' t u := by
      rw [Bool.eq_iff_iff, orF_iff]
      constructor
      · rintro ⟨v, v1, v2, v3⟩
        have := only (v - 1) (by omega) v3
        rw [← this]; exact v3
      · intro q
        exact ⟨u + 1, by omega, by omega, q⟩
    rw [ex]
    by_cases es : S' (u + 1) - S' u = S (t + 1) - S t
    · rw [if_pos (by rw [es]), show D_P_standsIn_38 5000 p p' (nI (t + 1)) (nI (u + 1)) 0 h = _ from stands_loop P L hb P' L' hb' hc ht u1 es (S (t + 1) - S t) 0 5000 (by omega) (by omega) (fun i hi => by omega)]
      congr 2
      unfold smF
      apply decide_eq_decide.mpr
      constructor
      · intro q
        have q0 := q 0 (by omega)
        have z1 := hb.2.2.2.2.1 t (S t + 0) ht (by omega) (by omega)
        have z2 := hb'.2.2.2.2.1 u (S' u + 0) u1 (by omega) (by omega)
        rw [q0] at z1
        exact ⟨by rw [← z1.2.2.1, ← z2.2.2.1], by rw [← z1.2.2.2, ← z2.2.2.2], es, q⟩
      · intro q; exact q.2.2.2
    · rw [if_neg (fun q => es ((nI_eq (by omega) (by omega)).mp q)), show smF S W K Q S' W' K' Q' t u = false from decide_eq_false (fun q => es q.2.2.1)]
      rfl
  · have e : tO' (W (S t)) = 0 := L'.2.2.2.2.2.2 _ (by omega) (fun i hi q => hin ⟨i, hi, q⟩)
    rw [e, if_pos (fun q => absurd q.1 (by decide))]
    have ex : orF (fun u => smF S W K Q S' W' K' Q' t (u - 1)) T' = false := by
      rw [← Bool.not_eq_true, orF_iff]
      rintro ⟨v, v1, v2, v3⟩
      have v3 := of_decide_eq_true v3
      have sv := hb'.2.2.2.1 (v - 1) (by omega)
      have m3 := hb'.mono (v - 1 + 1) T' (by omega) (Nat.le_refl T')
      exact hin ⟨S' (v - 1) + 0, by omega, (v3.2.2.2 0 (by omega)).symm⟩
    rw [ex]; rfl
theorem same_loop (M : CM h A cd c tc bu B) (L : BlockIs T S W K Q 0 (A 29) (A 30) (A 31) (A 32) (A 33)) (hb : BW c pe co T S W K Q) (L' : BlockIs T' S' W' K' Q' b (A 29) (A 30) (A 31) (A 32) (A 33)) (hb' : BW c pe co T' S' W' K' Q') (hc : c ≤ 24) (h4 : b ≤ 40) {t u : Nat} (ht : t < T) (hu : u < T') (es : S' (u + 1) - S' u = S (t + 1) - S t) : ∀ k j f, j + k = S (t + 1) - S t → k < f → (∀ i, i < j → W (S t + i) = W' (S' u + i)) → D_M_isSame_100 f 20 (nI b) (nI (S t)) (nI (S' u)) (nI (S (t + 1) - S t)) 1 (nI j) h = some (b2i (decide (∀ j, j < S (t + 1) - S t → W (S t + j) = W' (S' u + j)))) := by
  have l1 := hb.le (show t + 1 ≤ T by omega)
  have l2 := hb'.le (show u + 1 ≤ T' by omega)
  have m1 := hb.mono (t + 1) T (by omega) (Nat.le_refl T)
  have m2 := hb'.mono (u + 1) T' (by omega) (Nat.le_refl T')
  intro k
  induction k with
  | zero =>
    intro j f hj hf ha
    obtain ⟨f, rfl⟩ : ∃ g, f = g + 1 := ⟨f - 1, by omega⟩
    simp only [D_M_isSame_100, D_M_isSame_153]
    rw [if_pos (nI_le (by omega) (by omega)), decide_eq_true (fun i hi => ha i (by omega))]
    rfl
  | succ k ih =>
    intro j f hj hf ha
    obtain ⟨f, rfl⟩ : ∃ g, f = g + 1 := ⟨f - 1, by omega⟩
    have r1 := L.2.2 (S t + j) (by omega)
    rw [show 24 * 0 + (S t + j) = S t + j by omega] at r1
    have r2 := L'.2.2 (S' u + j) (by omega)
    rw [← Nat.add_assoc] at r2
    simp only [D_M_isSame_100, D_M_isSame_145, D_M_isSame_153, M.g17, xb1_some, show (24 : Int32) = nI 24 from rfl, pk_mul, nI_add, xaI_at M.a33 (show S t + j < 984 by omega) (by decide), xaI_at M.a33 (show 24 * b + S' u + j < 984 by omega) (by decide), r1, r2, nI_1]
    rw [if_neg (nI_ge (by omega) (by omega)), if_neg (by decide)]
    have b1 := hb.2.2.2.2.1 t (S t + j) ht (by omega) (by omega)
    have b2 := hb'.2.2.2.2.1 u (S' u + j) hu (by omega) (by omega)
    by_cases e : W (S t + j) = W' (S' u + j)
    · rw [if_pos (by rw [e])]
      exact ih (j + 1) f (by omega) (by omega) (fun i hi => by
        by_cases q : i = j
        · rw [q]; exact e
        · exact ha i (by omega))
    · rw [if_neg (fun q => e ((nI_eq (by omega) (by omega)).mp q)), decide_eq_false (fun q => e (q j (by omega)))]
      obtain ⟨f, rfl⟩ : ∃ g, f = g + 1 := ⟨f - 1, by omega⟩
      simp only [D_M_isSame_100, D_M_isSame_153]
      by_cases q : nI (S (t + 1) - S t) ≤ nI (j + 1)
      · rw [if_pos q]; rfl
      · rw [if_neg q]; rfl
theorem same_eq (M : CM h A cd c tc bu B) (L : BlockIs T S W K Q 0 (A 29) (A 30) (A 31) (A 32) (A 33)) (hb : BW c pe co T S W K Q) (L' : BlockIs T' S' W' K' Q' b (A 29) (A 30) (A 31) (A 32) (A 33)) (hb' : BW c pe co T' S' W' K' Q') (hc : c ≤ 24) (h4 : b ≤ 40) {t u : Nat} (ht : t < T) (hu : u < T') : X_M_isSame 20 (nI t) (nI b) (nI u) h = some (b2i (smF S W K Q S' W' K' Q' t u)) := by
  have hT := hb.1
  have hT' := hb'.1
  have l1 := hb.le (show t + 1 ≤ T by omega)
  have l2 := hb'.le (show u + 1 ≤ T' by omega)
  have f0 : X_M_from 20 0 (nI t) h = _ := from_eq M L hb (by decide : 0 ≤ 40) (show t ≤ T by omega)
  have f1 := from_eq M L' hb' h4 (show u ≤ T' by omega)
  obtain ⟨k1, k2, k3⟩ := L.2.1 t ht
  rw [show 24 * 0 + t = t by omega] at k1 k2
  rw [show 25 * 0 + (t + 1) = t + 1 by omega] at k3
  obtain ⟨j1, j2, j3⟩ := L'.2.1 u hu
  rw [← Nat.add_assoc] at j3
  have z : ∀ n, D_M_isSame_95 20 (nI b) (nI (S t)) (nI (S' u)) (nI n) 0 h = some 0 := by
    intro n
    have zz : ∀ f, D_M_isSame_100 (f + 1) 20 (nI b) (nI (S t)) (nI (S' u)) (nI n) 0 0 h = some 0 := by
      intro f
      simp only [D_M_isSame_100, D_M_isSame_153]
      by_cases q : nI n ≤ 0
      · rw [if_pos q]; rfl
      · rw [if_neg q]; rfl
    exact zz 4999
  unfold X_M_isSame D_M_isSame_0 D_M_isSame_94
  simp only [M.i, xchk_true, f0, f1, M.g14, M.g15, M.g16, xb1_some, show (24 : Int32) = nI 24 from rfl, show (25 : Int32) = nI 25 from rfl, pk_mul, nI_add, nI_1, xaI_at M.a32 (show t + 1 < 1025 by omega) (by decide), xaI_at M.a32 (show 25 * b + u + 1 < 1025 by omega) (by decide), xaI_at M.a30 (show t < 984 by omega) (by decide), xaI_at M.a30 (show 24 * b + u < 984 by omega) (by decide), xaI_at M.a31 (show t < 984 by omega) (by decide), xaI_at M.a31 (show 24 * b + u < 984 by omega) (by decide), k1, k2, k3, j1, j2, j3, pk_sub (hb.mono t (t + 1) (by omega) (by omega)), pk_sub (hb'.mono u (u + 1) (by omega) (by omega)), z]
  by_cases e1 : K (t + 1) = K' (u + 1)
  · rw [if_pos e1]
    by_cases e2 : Q (t + 1) = Q' (u + 1)
    · rw [if_pos e2]
      by_cases e3 : S' (u + 1) - S' u = S (t + 1) - S t
      · rw [if_pos (by rw [e3])]
        have := same_loop M L hb L' hb' hc h4 ht hu e3 (S (t + 1) - S t) 0 5000 (by omega) (by omega) (fun i hi => by omega)
        have : D_M_isSame_95 20 (nI b) (nI (S t)) (nI (S' u)) (nI (S (t + 1) - S t)) 1 h = _ := this
        rw [this]
        congr 2
        unfold smF
        apply decide_eq_decide.mpr
        exact ⟨fun q => ⟨e1, e2, e3, q⟩, fun q => q.2.2.2⟩
      · rw [if_neg (fun q => e3 ((nI_eq (by omega) (by omega)).mp q)), show smF S W K Q S' W' K' Q' t u = false from decide_eq_false (fun q => e3 q.2.2.1)]; rfl
    · rw [if_neg e2, show smF S W K Q S' W' K' Q' t u = false from decide_eq_false (fun q => e2 q.2.1)]; rfl
  · rw [if_neg e1, show smF S W K Q S' W' K' Q' t u = false from decide_eq_false (fun q => e1 q.1)]; rfl
theorem mdiffer_in (M : CM h A cd c tc bu B) (L : BlockIs T S W K Q 0 (A 29) (A 30) (A 31) (A 32) (A 33)) (hb : BW c pe co T S W K Q) (L' : BlockIs T' S' W' K' Q' b (A 29) (A 30) (A 31) (A 32) (A 33)) (hb' : BW c pe co T' S' W' K' Q') (hc : c ≤ 24) (h4 : b ≤ 40) {t : Nat} (ht : t < T) (x : Int32) (k41 : Nat → Int32 → Int32 → Int32 → XH → Option (Int32 × XH)) : ∀ k j f, j + k = T' → k < f → D_M_differ_57 k41 f 20 (nI b) x (nI t) (b2i (orF (fun u => smF S W K Q S' W' K' Q' t (u - 1)) j)) (nI j) h = k41 20 (nI b) (x + b2i (!orF (fun u => smF S W K Q S' W' K' Q' t (u - 1)) T')) (nI (t + 1)) h := by
  have hT' := hb'.1
  have eb : xaI h 29 (nI b) = some (nI T') := by rw [xaI_at M.a29 (show b < 41 by omega) (by decide), L'.1]
  intro k
  induction k with
  | zero =>
    intro j f hj hf
    obtain ⟨f, rfl⟩ : ∃ g, f = g + 1 := ⟨f - 1, by omega⟩
    obtain rfl : j = T' := by omega
    simp only [D_M_differ_57, D_M_differ_108, M.g13, xb1_some, eb, nI_1]
    rw [if_pos (nI_le (by omega) (by omega))]
    cases orF (fun u => smF S W K Q S' W' K' Q' t (u - 1)) j <;> rfl
  | succ k ih =>
    intro j f hj hf
    obtain ⟨f, rfl⟩ : ∃ g, f = g + 1 := ⟨f - 1, by omega⟩
    have hs := ih (j + 1) f (by omega) (by omega)
    rw [orF, show j + 1 - 1 = j from rfl] at hs
    simp only [D_M_differ_57, D_M_differ_84, D_M_differ_89, M.g13, M.i, xchk_true, xb1_some, eb, nI_1, same_eq M L hb L' hb' hc h4 ht (show j < T' by omega), b2i_0]
    rw [if_neg (nI_ge (by omega) (by omega))]
    generalize orF (fun u => smF S W K Q S' W' K' Q' t (u - 1)) j = a at hs ⊢
    generalize smF S W K Q S' W' K' Q' t j = d at hs ⊢
    cases a <;> cases d <;> exact hs
theorem differ_loop (P : CP h p T tO pO rO rw sO) (L : PlanIs T S W K Q T tO pO rO rw sO) (hb : BW c pe co T S W K Q) (P' : CP h p' T' tO' pO' rO' rw' sO') (L' : PlanIs T' S' W' K' Q' T' tO' pO' rO' rw' sO') (hb' : BW c pe co T' S' W' K' Q') (hc : c ≤ 24) (M : CM h1 A cd c tc bu B) (J : BlockIs T S W K Q 0 (A 29) (A 30) (A 31) (A 32) (A 33)) (J' : BlockIs T' S' W' K' Q' b (A 29) (A 30) (A 31) (A 32) (A 33)) (h4 : b ≤ 40) : ∀ k t f x, t + k = T → k < f → ∃ v, D_P_tasksNotIn_4 f p p' x (nI (t + 1)) h = some v ∧ D_M_differ_41 f 20 (nI b) x (nI t) h1 = some (v, h1) := by
  have hT := hb.1
  have hT' := hb'.1
  have e0 : xaI h1 29 (0 : Int32) = some (nI T) := by rw [← J.1]; exact xaI_at (i := 0) M.a29 (by decide) (by decide)
  intro k
  induction k with
  | zero =>
    intro t f x ht hf
    obtain ⟨f, rfl⟩ : ∃ g, f = g + 1 := ⟨f - 1, by omega⟩
    refine ⟨x, ?_, ?_⟩
    · simp only [D_P_tasksNotIn_4, P.cn, xb1_some]
      rw [if_pos (nI_lt (by omega) (by omega))]
    · simp only [D_M_differ_41, M.g13, xb1_some, e0]
      rw [if_pos (nI_le (by omega) (by omega))]
  | succ k ih =>
    intro t f x ht hf
    obtain ⟨f, rfl⟩ : ∃ g, f = g + 1 := ⟨f - 1, by omega⟩
    have mi := mdiffer_in M J hb J' hb' hc h4 (show t < T by omega) x (D_M_differ_41 f) T' 0 5000 (by omega) (by omega)
    have mi : D_M_differ_57 (D_M_differ_41 f) 5000 20 (nI b) x (nI t) 0 0 h1 = _ := mi
    simp only [D_P_tasksNotIn_4, D_P_tasksNotIn_24, D_M_differ_41, P.cn, P.i, xchk_true, xb1_some, M.g13, e0, mi, stands_eq P L hb P' L' hb' hc (show t < T by omega), b2i_0, nI_1]
    rw [if_neg (nI_nlt (show t + 1 ≤ T by omega) (by omega)), if_neg (nI_ge (show t < T by omega) (by omega))]
    cases orF (fun u => smF S W K Q S' W' K' Q' t (u - 1)) T'
    · exact ih (t + 1) f (x + 1) (by omega) (by omega)
    · have := ih (t + 1) f x (by omega) (by omega)
      rw [show x + b2i (!true) = x from Int32.add_zero x]
      exact this
end Df
theorem op_differ {m n : Nat} {h : XH} (I : Inv m n h) (hm : m < 2 ^ 31) (x : Int32) : ∃ v h', X_T_differ 1 x h = some v ∧ X_M_differ 20 x h = some (v, h') ∧ Inv m n h' := by
  obtain ⟨A, PT, cd, c, tc, kc, B, bl, bu, C, hn, hB, RU, RG, RD, RK, RB, RZ⟩ := I
  have C1 := C.code
  have M1 := C1.2.2.2.1
  have I1 : Inv m n (va_up h 20 (mO 0 c (nI tc) bu (nI B))) := ⟨A, PT, 0, c, tc, kc, B, bl, bu, C1, hn, hB, RU, RG, RD, RK, RB, RZ⟩
  unfold X_T_differ D_T_differ_0 X_M_differ D_M_differ_0 D_M_differ_35
  have w1 : ∀ g : XH, X_M_isIn x.toInt64 1 (nI B).toInt64 g = some (if 1 ≤ x ∧ x ≤ nI B then 1 else 0) := fun g => misIn32 x 1 (nI B) 1 _ rfl rfl g
  simp only [C.1.b, C.1.n, C.2.2.2.1.code0, xb1_some, M1.gbu, M1.gbs, isWithin_eq, w1, w01i]
  rcases built_cases C RB with ⟨rfl, rfl⟩ | ⟨p, T, S, W, K, Q, rfl, rfl, b2, P, bw, pl, bk, al⟩
  · exact ⟨-3, _, rfl, rfl, I1⟩
  · simp only [xq_some, if_neg (show ¬ (1 : Int32) = 0 by decide)]
    have hk := RK.1
    by_cases q : 1 ≤ x ∧ x ≤ nI kc
    · obtain ⟨j, j1, j2, rfl⟩ := in_rng (by omega) q
      obtain ⟨i, rfl⟩ : ∃ i, j = i + 1 := ⟨j - 1, by omega⟩
      have q1 : 1 ≤ nI (i + 1) ∧ nI (i + 1) ≤ nI B := ⟨q.1, nI_le (by omega) (by omega)⟩
      have q2 : nI (i + 1) ≤ (40 : Int32) := nI_le (b := 40) (by omega) (by decide)
      have kr : xaR h "TaskBuild$Plan" 13 (nI i) = some (some (35 + 6 * i)) := by
        unfold xaR
        rw [C.1.2]
        simp only []
        rw [if_pos ⟨trivial, n_in (by omega) (by decide)⟩, nI_clamp (by omega)]
        unfold kfF
        rw [if_pos (by omega)]
      obtain ⟨T', S', W', K', Q', c1, c2, c3⟩ := RK.2 i (by omega)
      have P' := C.2.2.2.2 (35 + 6 * i) (Or.inr ⟨i, by omega, rfl⟩)
      have e := c2.1
      rw [e] at P' c2
      obtain ⟨v, v1, v2⟩ := differ_loop P pl bw P' c2 c1 RU.1 M1 bk c3 (by omega) T 0 5000 0 (by omega) (by have := bw.1; omega)
      have v1 : X_P_tasksNotIn p (35 + 6 * i) h = some v := v1
      have v2 : D_M_differ_41 5000 20 (nI (i + 1)) 0 0 (va_up h 20 (mO 0 c (nI tc) 1 (nI B))) = _ := v2
      simp only [if_neg (fun z => z q : ¬ ¬ (1 ≤ nI (i + 1) ∧ nI (i + 1) ≤ nI kc)), if_neg (fun z => z q1 : ¬ ¬ (1 ≤ nI (i + 1) ∧ nI (i + 1) ≤ nI B)), if_pos q2, C.1.k, xb1_some, nI_pred, kr, xq_some, P.i, xchk_true, v1, v2]
      exact ⟨v, _, rfl, rfl, I1⟩
    · simp only [if_pos q]
      by_cases q1 : 1 ≤ x ∧ x ≤ nI B
      · simp only [if_neg (fun z => z q1 : ¬ ¬ (1 ≤ x ∧ x ≤ nI B))]
        have q2 : ¬ x ≤ (40 : Int32) := by
          intro z
          obtain ⟨j, j1, j2, rfl⟩ := in_rng (by omega) q1
          have z : nI j ≤ nI 40 := z
          rw [nI_leI (by omega) (by decide)] at z
          exact q ⟨q1.1, nI_le (by omega) (by omega)⟩
        simp only [if_neg q2]
        exact ⟨-1, _, rfl, rfl, I1⟩
      · simp only [if_pos q1]
        exact ⟨-1, _, rfl, rfl, I1⟩

/-! what is asked of a build: task, order, rank, table, budget -/
section Bs
variable {h : XH} {A : Nat → Nat → Int32} {PT : Nat → Nat} {cd : Int32} {c tc kc B : Nat} {bu : Int32} {p T b : Nat} {S W : Nat → Nat} {K Q : Nat → Int32} {P : Nat} {tO pO rO rw sO pe co : Nat → Int32}
theorem hasTask_eq (H : CP h p T tO pO rO rw sO) (x : Int32) : X_P_hasTask p x h = some (if 1 ≤ x ∧ x ≤ nI T then 1 else 0) := by
  unfold X_P_hasTask D_P_hasTask_0
  rw [H.cn, xb1_some, isWithin_eq, xb1_some, w01]
  rfl
theorem misTask_eq (M : CM h A cd c tc bu B) (e : A 29 0 = nI T) (x : Int32) : X_M_isTask 20 x h = some (if 1 ≤ x ∧ x ≤ nI T then 1 else 0) := by
  unfold X_M_isTask D_M_isTask_0
  have e0 : xaI h 29 (0 : Int32) = some (A 29 0) := xaI_at (i := 0) M.a29 (by decide) (by decide)
  rw [M.g13, xb1_some, e0, xb1_some, e, misIn32 x 1 (nI T) 1 _ rfl rfl, xb1_some, w01]
  rfl
theorem BW.mono (H : BW c pe co T S W K Q) : ∀ t u, t ≤ u → u ≤ T → S t ≤ S u := by
  intro t u
  induction u with
  | zero => intro h1 _; rw [show t = 0 by omega]; exact Nat.le_refl _
  | succ u ih =>
    intro h1 h2
    by_cases e : t = u + 1
    · subst e; exact Nat.le_refl _
    · have := H.2.2.2.1 u (by omega)
      have := ih (by omega) (by omega)
      omega
theorem BW.le (H : BW c pe co T S W K Q) {t : Nat} (ht : t ≤ T) : S t ≤ 24 := Nat.le_trans (H.mono t T ht (Nat.le_refl T)) H.2.2.1
theorem sizeOf_eq (H : CP h p P tO pO rO rw sO) (L : PlanIs T S W K Q P tO pO rO rw sO) (hb : BW c pe co T S W K Q) {t : Nat} (ht : t < T) : X_P_sizeOf p (nI (t + 1)) h = some (nI (S (t + 1) - S t)) := by
  unfold X_P_sizeOf D_P_sizeOf_0
  have hT := hb.1
  rw [H.st, xb1_some, nI_1, xaI_at H.2.2.2.2.2 (show t + 1 + 1 < 26 by omega) (by decide), xb1_some, xb1_some, xaI_at H.2.2.2.2.2 (show t + 1 < 26 by omega) (by decide), xb1_some, L.2.1 (t + 1) (by omega), L.2.1 t (by omega), pk_sub (hb.mono t (t + 1) (by omega) (by omega))]
def ordF (S W : Nat → Nat) (t : Nat) (x : Int32) : Int32 := if x < 0 ∨ nI (S (t + 1) - S t) ≤ x then 0 else nI (W (S t + x.toNatClampNeg))
theorem runnableAt_eq (H : CP h p P tO pO rO rw sO) (L : PlanIs T S W K Q P tO pO rO rw sO) (hb : BW c pe co T S W K Q) {t : Nat} (ht : t < T) (x : Int32) : X_P_runnableAt p (nI (t + 1)) x h = some (ordF S W t x) := by
  unfold X_P_runnableAt D_P_runnableAt_0 D_P_runnableAt_29 D_P_runnableAt_30 ordF
  have hT := hb.1
  have h1 := hb.le (show t + 1 ≤ T by omega)
  have h2 := hb.mono (t + 1) T (by omega) (Nat.le_refl T)
  have h3 := hb.2.2.1
  have h4 := hb.mono t (t + 1) (by omega) (by omega)
  rcases i_cases x with q | ⟨j, hj, rfl⟩
  · rw [if_pos q, if_pos (Or.inl q)]
  · rw [if_neg (nI_pos hj), H.i, xchk_true, sizeOf_eq H L hb ht, xb1_some]
    by_cases q : nI (S (t + 1) - S t) ≤ nI j
    · rw [if_pos q, if_pos (Or.inr q)]
    · rw [if_neg q, if_neg (fun z => z.elim (nI_pos hj) q)]
      have q2 : j < S (t + 1) - S t := by
        rcases Nat.lt_or_ge j (S (t + 1) - S t) with z | z
        · exact z
        · exact absurd (nI_le z hj) q
      rw [H.ro, xb1_some, H.st, xb1_some, xaI_at H.2.2.2.2.2 (show t + 1 < 26 by omega) (by decide), xb1_some, L.2.1 t (by omega), nI_add, xaI_at H.2.2.2.2.1 (show S t + j < 24 by omega) (by decide), xb1_some, L.2.2.1 _ (by omega), nI_clamp hj]
theorem from_eq (M : CM h A cd c tc bu B) (L : BlockIs T S W K Q b (A 29) (A 30) (A 31) (A 32) (A 33)) (hb : BW c pe co T S W K Q) (hb4 : b ≤ 40) {t : Nat} (ht : t ≤ T) : X_M_from 20 (nI b) (nI t) h = some (nI (S t)) := by
  unfold X_M_from D_M_from_0 D_M_from_19
  have hT := hb.1
  cases t with
  | zero => rw [if_pos (show nI 0 = 0 from rfl), hb.2.1]; rfl
  | succ t =>
    rw [if_neg (nI_ne0 (by omega) (by omega)), M.g16, xb1_some]
    have e : (25 : Int32) * nI b + nI (t + 1) = nI (25 * b + (t + 1)) := by rw [show (25 : Int32) = nI 25 from rfl, pk_mul, nI_add]
    rw [e, xaI_at M.a32 (show 25 * b + (t + 1) < 1025 by omega) (by decide), xb1_some, (L.2.1 t (by omega)).2.2]
theorem rankOf_loop (M : CM h A cd c tc bu B) (L : BlockIs T S W K Q 0 (A 29) (A 30) (A 31) (A 32) (A 33)) (hT : T ≤ 24) {t : Nat} (h1 : 1 ≤ t) (h2 : t ≤ T) : ∀ d k f, t + k + d = T + 1 → d < f → D_M_rankOf_4 f 20 (nI t) (nI (rkF K T t k)) (nI (t + k)) h = some (nI (rkF K T t (T + 1 - t))) := by
  have e0 : xaI h 29 (0 : Int32) = some (A 29 0) := xaI_at (i := 0) M.a29 (by decide) (by decide)
  have ek : ∀ u, 1 ≤ u → u ≤ T → A 30 (u - 1) = K u := fun u u1 u2 => by
    have := (L.2.1 (u - 1) (by omega)).1
    rw [show 24 * 0 + (u - 1) = u - 1 by omega, show u - 1 + 1 = u by omega] at this
    exact this
  intro d
  induction d with
  | zero =>
    intro k f hk hf
    obtain ⟨f, rfl⟩ : ∃ g, f = g + 1 := ⟨f - 1, by omega⟩
    simp only [D_M_rankOf_4, M.g13, xb1_some, e0, L.1]
    rw [if_pos (nI_lt (by omega) (by omega)), show k = T + 1 - t by omega]
  | succ d ih =>
    intro k f hk hf
    obtain ⟨f, rfl⟩ : ∃ g, f = g + 1 := ⟨f - 1, by omega⟩
    have hs := ih (k + 1) f (by omega) (by omega)
    have s1 : nI (t + k) - 1 = nI (t + k - 1) := by rw [show t + k = (t + k - 1) + 1 by omega]; exact nI_pred _
    have s2 : nI t - 1 = nI (t - 1) := by rw [show t = (t - 1) + 1 by omega]; exact nI_pred _
    simp only [D_M_rankOf_4, D_M_rankOf_39, M.g13, M.g14, xb1_some, e0, L.1, s1, s2, xaI_at M.a30 (show t + k - 1 < 984 by omega) (by decide), xaI_at M.a30 (show t - 1 < 984 by omega) (by decide), ek (t + k) (by omega) (by omega), ek t h1 h2, nI_1]
    rw [if_neg (nI_nlt (by omega) (by omega))]
    rw [rkF] at hs
    by_cases q : K (t + k) = K t
    · rw [if_pos q]; rw [if_pos q] at hs
      exact hs
    · rw [if_neg q]; rw [if_neg q] at hs
      rw [show nI (rkF K T t k) + 0 = nI (rkF K T t k) from nI_add _ 0]
      exact hs
theorem rankOf_eq (M : CM h A cd c tc bu B) (L : BlockIs T S W K Q 0 (A 29) (A 30) (A 31) (A 32) (A 33)) (hT : T ≤ 24) {t : Nat} (h1 : 1 ≤ t) (h2 : t ≤ T) : X_M_rankOf 20 (nI t) h = some (nI (rkF K T t (T + 1 - t))) := rankOf_loop M L hT h1 h2 (T + 1 - t) 0 5000 (by omega) (by omega)
theorem table_loop {h1 : XH} (H : CP h p P tO pO rO rw sO) (LP : PlanIs T S W K Q P tO pO rO rw sO) (M : CM h1 A cd c tc bu B) (L : BlockIs T S W K Q 0 (A 29) (A 30) (A 31) (A 32) (A 33)) (hT : T ≤ 24) (x i : Int32) : ∀ d t f st, t + d = T → d < f → ∃ v, D_P_startAt_5 f p x i st (nI (t + 1)) h = some v ∧ D_M_table_27 f 20 x i st (nI (t + 1)) h1 = some (v, h1) := by
  have e0 : xaI h1 29 (0 : Int32) = some (A 29 0) := xaI_at (i := 0) M.a29 (by decide) (by decide)
  intro d
  induction d with
  | zero =>
    intro t f st ht hf
    obtain ⟨f, rfl⟩ : ∃ g, f = g + 1 := ⟨f - 1, by omega⟩
    refine ⟨0, ?_, ?_⟩
    · simp only [D_P_startAt_5, H.cn, xb1_some, LP.1]
      rw [if_pos (nI_lt (by omega) (by omega))]
    · simp only [D_M_table_27, M.g13, xb1_some, e0, L.1]
      rw [if_pos (nI_lt (by omega) (by omega))]
  | succ d ih =>
    intro t f st ht hf
    obtain ⟨f, rfl⟩ : ∃ g, f = g + 1 := ⟨f - 1, by omega⟩
    have q1 := LP.2.2.2.1 t (by omega)
    have q2 := (L.2.1 t (by omega)).2.1
    rw [show 24 * 0 + t = t by omega] at q2
    have s1 : nI (t + 1) - 1 = nI t := nI_pred t
    simp only [D_P_startAt_5, D_P_startAt_47, D_M_table_27, D_M_table_75, H.cn, H.pe, M.g13, M.g15, xb1_some, e0, L.1, LP.1, s1, xaI_at H.2.2.1 (show t + 1 < 25 by omega) (by decide), xaI_at M.a31 (show t < 984 by omega) (by decide), q1, q2, nI_1]
    rw [if_neg (nI_nlt (show t + 1 ≤ T by omega) (by omega)), if_neg (nI_nlt (show t + 1 ≤ T by omega) (by omega))]
    by_cases z : Q (t + 1) ≤ 0
    · rw [if_pos z, if_pos z]; exact ih (t + 1) f st (by omega) (by omega)
    · rw [if_neg z, if_neg z]
      have z0 : ¬ Q (t + 1) = 0 := fun w => z (by rw [w]; decide)
      rw [if_neg z0, if_neg z0]
      by_cases w : x - x / Q (t + 1) * Q (t + 1) = 0
      · rw [if_pos w, if_pos w]
        by_cases e : st = i
        · rw [if_pos e, if_pos e]; exact ⟨_, rfl, rfl⟩
        · rw [if_neg e, if_neg e]; exact ih (t + 1) f (st + 1) (by omega) (by omega)
      · rw [if_neg w, if_neg w]; exact ih (t + 1) f st (by omega) (by omega)
/-- the steps of the runnables from place a on -/
def stF (sN : Nat → Nat) (W : Nat → Nat) (a : Nat) : Nat → Nat
  | 0 => 0
  | k + 1 => stF sN W a k + sN (W (a + k))
theorem stF_le {sN W : Nat → Nat} {a n : Nat} (h : ∀ i, i < n → sN (W (a + i)) ≤ 100000) : ∀ k, k ≤ n → stF sN W a k ≤ 100000 * k := by
  intro k
  induction k with
  | zero => intro _; exact Nat.le_refl 0
  | succ k ih =>
    intro hk
    have := ih (by omega)
    have := h k (by omega)
    unfold stF
    omega
theorem steps_loop {sN : Nat → Nat} {sp rd wr : Nat → Int32} (U : CU h c pe co sp rd wr) (H : CP h p P tO pO rO rw sO) (LP : PlanIs T S W K Q P tO pO rO rw sO) (hb : BW c pe co T S W K Q) (hc : c ≤ 24) (hs : ∀ r, 1 ≤ r → r ≤ c → sp r = nI (sN r)) {t : Nat} (ht : t < T) : ∀ d k f, S t + k + d = S (t + 1) → d < f → D_P_stepsOf_10 f p (nI (t + 1)) 2 (nI (stF sN W (S t) k)) (nI (S t + k)) h = some (nI (stF sN W (S t) (S (t + 1) - S t))) := by
  have hT := hb.1
  have h3 := hb.le (show t + 1 ≤ T by omega)
  intro d
  induction d with
  | zero =>
    intro k f hk hf
    obtain ⟨f, rfl⟩ : ∃ g, f = g + 1 := ⟨f - 1, by omega⟩
    simp only [D_P_stepsOf_10, H.st, xb1_some, nI_1, xaI_at H.2.2.2.2.2 (show t + 1 + 1 < 26 by omega) (by decide), LP.2.1 (t + 1) (by omega)]
    rw [if_pos (nI_le (by omega) (by omega)), show k = S (t + 1) - S t by omega]
  | succ d ih =>
    intro k f hk hf
    obtain ⟨f, rfl⟩ : ∃ g, f = g + 1 := ⟨f - 1, by omega⟩
    have hs2 := ih (k + 1) f (by omega) (by omega)
    have hm := hb.mono (t + 1) T (by omega) (Nat.le_refl T)
    obtain ⟨w1, w2, -⟩ := hb.2.2.2.2.1 t (S t + k) ht (by omega) (by omega)
    simp only [D_P_stepsOf_10, H.st, H.ro, U.s, xb1_some, nI_1, xaI_at H.2.2.2.2.2 (show t + 1 + 1 < 26 by omega) (by decide), LP.2.1 (t + 1) (by omega), xaI_at H.2.2.2.2.1 (show S t + k < 24 by omega) (by decide), LP.2.2.1 _ (show S t + k < S T by omega), xaI_at U.2.2.2.1 (show W (S t + k) < 25 by omega) (by decide), hs _ w1 w2, nI_add]
    rw [if_neg (nI_ge (by omega) (by omega))]
    exact hs2
theorem msteps_loop {h1 : XH} {sN : Nat → Nat} (M : CM h1 A cd c tc bu B) (L : BlockIs T S W K Q 0 (A 29) (A 30) (A 31) (A 32) (A 33)) (hb : BW c pe co T S W K Q) (hc : c ≤ 24) (hs : ∀ r, 1 ≤ r → r ≤ c → A 23 r = nI (sN r) ∧ sN r ≤ 100000) (y : Int64) {t : Nat} (ht : t < T) : ∀ d k f, S t + k + d = S (t + 1) → d < f → D_M_budget_47 f 20 (nI (t + 1)) y (lN (stF sN W (S t) k)) (nI (S t + k)) h1 = some (if 0 < lg_cmp (lN (stF sN W (S t) (S (t + 1) - S t))) y then 0 else 1, h1) := by
  have hT := hb.1
  have h3 := hb.le (show t + 1 ≤ T by omega)
  have en := (L.2.1 t ht).2.2
  rw [show 25 * 0 + (t + 1) = t + 1 by omega] at en
  intro d
  induction d with
  | zero =>
    intro k f hk hf
    obtain ⟨f, rfl⟩ : ∃ g, f = g + 1 := ⟨f - 1, by omega⟩
    simp only [D_M_budget_47, D_M_budget_94, M.g16, xb1_some, xaI_at M.a32 (show t + 1 < 1025 by omega) (by decide), en]
    rw [if_pos (nI_le (by omega) (by omega)), show k = S (t + 1) - S t by omega]
    by_cases q : 0 < lg_cmp (lN (stF sN W (S t) (S (t + 1) - S t))) y
    · rw [if_pos q, if_pos q]
    · rw [if_neg q, if_neg q]
  | succ d ih =>
    intro k f hk hf
    obtain ⟨f, rfl⟩ : ∃ g, f = g + 1 := ⟨f - 1, by omega⟩
    have hs2 := ih (k + 1) f (by omega) (by omega)
    have hm := hb.mono (t + 1) T (by omega) (Nat.le_refl T)
    obtain ⟨w1, w2, -⟩ := hb.2.2.2.2.1 t (S t + k) ht (by omega) (by omega)
    have ro := L.2.2 (S t + k) (by omega)
    rw [show 24 * 0 + (S t + k) = S t + k by omega] at ro
    simp only [D_M_budget_47, M.g16, M.g4, M.g17, xb1_some, xaI_at M.a32 (show t + 1 < 1025 by omega) (by decide), en, xaI_at M.a33 (show S t + k < 984 by omega) (by decide), ro, xaI_at M.a23 (show W (S t + k) < 25 by omega) (by decide), (hs _ w1 w2).1, nI_l (show sN (W (S t + k)) < 2 ^ 31 by have := (hs _ w1 w2).2; omega), lN_add, nI_1]
    rw [if_neg (nI_ge (by omega) (by omega))]
    exact hs2
end Bs

/-! the reference keeps a build -/
def cpF (F : Nat → Int32) (o i : Nat) : Nat → Int32 := fun j => if o ≤ j ∧ j < o + i then F (j - o) else F j
theorem cpF_lo {F : Nat → Int32} {o i j : Nat} (h : j < o) : cpF F o i j = F j := if_neg (by omega)
theorem cpF_in {F : Nat → Int32} {o i j : Nat} (h : j < i) : cpF F o i (o + j) = F j := by
  unfold cpF
  rw [if_pos ⟨by omega, by omega⟩, Nat.add_sub_cancel_left]
theorem cpF_hi {F : Nat → Int32} {o i j : Nat} (h : o + i ≤ j) : cpF F o i j = F j := if_neg (by omega)
theorem cpF_0 (F : Nat → Int32) (o : Nat) : cpF F o 0 = F := by
  funext j
  exact if_neg (by omega)
theorem cpF_s (F : Nat → Int32) (o i : Nat) : upd (cpF F o i) (o + i) (F i) = cpF F o (i + 1) := by
  funext j
  by_cases e : j = o + i
  · rw [e, upd_s, cpF_in (by omega)]
  · rw [upd_n e]
    unfold cpF
    by_cases q : o ≤ j ∧ j < o + i
    · rw [if_pos q, if_pos ⟨q.1, by omega⟩]
    · rw [if_neg q, if_neg (by omega)]
def KA (A : Nat → Nat → Int32) (b i k : Nat) : Nat → Nat → Int32 := fun j => if j = 29 then upd (A 29) b (A 29 0) else if j = 30 then cpF (A 30) (24 * b) i else if j = 31 then cpF (A 31) (24 * b) i else if j = 33 then cpF (A 33) (24 * b) i else if j = 32 then cpF (A 32) (25 * b) k else A j
theorem KA_29 (A : Nat → Nat → Int32) (b i k : Nat) : KA A b i k 29 = upd (A 29) b (A 29 0) := rfl
theorem KA_30 (A : Nat → Nat → Int32) (b i k : Nat) : KA A b i k 30 = cpF (A 30) (24 * b) i := rfl
theorem KA_31 (A : Nat → Nat → Int32) (b i k : Nat) : KA A b i k 31 = cpF (A 31) (24 * b) i := rfl
theorem KA_32 (A : Nat → Nat → Int32) (b i k : Nat) : KA A b i k 32 = cpF (A 32) (25 * b) k := rfl
theorem KA_33 (A : Nat → Nat → Int32) (b i k : Nat) : KA A b i k 33 = cpF (A 33) (24 * b) i := rfl
theorem KA_n {A : Nat → Nat → Int32} {b i k j : Nat} (h : j < 29 ∨ 33 < j) : KA A b i k j = A j := by
  unfold KA
  rw [if_neg (by omega), if_neg (by omega), if_neg (by omega), if_neg (by omega), if_neg (by omega)]
section Kp
variable {A : Nat → Nat → Int32} {cd : Int32} {c tc B b : Nat} {bu : Int32}
theorem keep2 (hb : 1 ≤ b ∧ b ≤ 40) : ∀ d k f (g : XH), k + d = 25 → d < f → CM g (KA A b 24 k) cd c tc bu B → ∃ g', D_M_keep_79 f 20 (nI b) (nI k) g = some g' ∧ CM g' (KA A b 24 25) cd c tc bu B ∧ ∀ j, j < 29 ∨ 34 < j → g' j = g j := by
  intro d
  induction d with
  | zero =>
    intro k f g hk hf M
    obtain ⟨f, rfl⟩ : ∃ g, f = g + 1 := ⟨f - 1, by omega⟩
    obtain rfl : k = 25 := by omega
    exact ⟨g, rfl, M, fun _ _ => rfl⟩
  | succ d ih =>
    intro k f g hk hf M
    obtain ⟨f, rfl⟩ : ∃ g, f = g + 1 := ⟨f - 1, by omega⟩
    have r1 : xaI g 32 (nI k) = some (A 32 k) := by rw [xaI_at M.a32 (by omega) (by decide), KA_32, cpF_lo (by omega)]
    have s1 : xaS g 32 (nI (25 * b + k)) (A 32 k) = some (va_up g 32 (.inl (.int, (1025, .inl (cpF (A 32) (25 * b) (k + 1)))))) := by
      rw [xaS_at M.a32 (by omega) (by decide), KA_32, cpF_s]
    have M1 := (M.u32 (cpF (A 32) (25 * b) (k + 1))).co (A' := KA A b 24 (k + 1)) (fun j j1 j2 => by
      by_cases e : j = 32
      · rw [e, ua_s]; rfl
      · rw [ua_n e]
        unfold KA
        simp only [if_neg e])
    obtain ⟨g', a1, a2, a3⟩ := ih (k + 1) f _ (by omega) (by omega) M1
    refine ⟨g', ?_, a2, fun j hj => by rw [a3 j hj, up_n (by omega)]⟩
    have e25 : (25 : Int32) * nI b + nI k = nI (25 * b + k) := by rw [show (25 : Int32) = nI 25 from rfl, pk_mul, nI_add]
    simp only [D_M_keep_79, M.g16, xb1_some, r1, e25, s1, nI_1]
    rw [if_neg (show ¬ (25 : Int32) ≤ nI k from nI_ge (b := 25) (by omega) (by decide))]
    exact a1
theorem keep1 (hb : 1 ≤ b ∧ b ≤ 40) : ∀ d i f (g : XH), i + d = 24 → d < f → CM g (KA A b i 0) cd c tc bu B → ∃ g', D_M_keep_14 f 20 (nI b) (nI i) g = some g' ∧ CM g' (KA A b 24 25) cd c tc bu B ∧ ∀ j, j < 29 ∨ 34 < j → g' j = g j := by
  intro d
  induction d with
  | zero =>
    intro i f g hi hf M
    obtain ⟨f, rfl⟩ : ∃ g, f = g + 1 := ⟨f - 1, by omega⟩
    obtain rfl : i = 24 := by omega
    obtain ⟨g', a1, a2, a3⟩ := keep2 hb 25 0 5000 g (by omega) (by omega) M
    refine ⟨g', ?_, a2, a3⟩
    rw [show D_M_keep_14 (f + 1) 20 (nI b) (nI 24) g = D_M_keep_79 5000 20 (nI b) 0 g from rfl]
    exact a1
  | succ d ih =>
    intro i f g hi hf M
    obtain ⟨f, rfl⟩ : ∃ g, f = g + 1 := ⟨f - 1, by omega⟩
    have e24 : (24 : Int32) * nI b + nI i = nI (24 * b + i) := by rw [show (24 : Int32) = nI 24 from rfl, pk_mul, nI_add]
    have r1 : xaI g 30 (nI i) = some (A 30 i) := by rw [xaI_at M.a30 (by omega) (by decide), KA_30, cpF_lo (by omega)]
    have s1 : xaS g 30 (nI (24 * b + i)) (A 30 i) = some (va_up g 30 (.inl (.int, (984, .inl (cpF (A 30) (24 * b) (i + 1)))))) := by
      rw [xaS_at M.a30 (by omega) (by decide), KA_30, cpF_s]
    have M1 := M.u30 (cpF (A 30) (24 * b) (i + 1))
    generalize hg1 : va_up g 30 (.inl (.int, (984, .inl (cpF (A 30) (24 * b) (i + 1))))) = g1 at s1 M1
    have q31 : ua (KA A b i 0) 30 (cpF (A 30) (24 * b) (i + 1)) 31 = cpF (A 31) (24 * b) i := by rw [ua_n (by decide)]; rfl
    have r2 : xaI g1 31 (nI i) = some (A 31 i) := by rw [xaI_at M1.a31 (by omega) (by decide), q31, cpF_lo (by omega)]
    have s2 : xaS g1 31 (nI (24 * b + i)) (A 31 i) = some (va_up g1 31 (.inl (.int, (984, .inl (cpF (A 31) (24 * b) (i + 1)))))) := by
      rw [xaS_at M1.a31 (by omega) (by decide), q31, cpF_s]
    have M2 := M1.u31 (cpF (A 31) (24 * b) (i + 1))
    generalize hg2 : va_up g1 31 (.inl (.int, (984, .inl (cpF (A 31) (24 * b) (i + 1))))) = g2 at s2 M2
    have q33 : ua (ua (KA A b i 0) 30 (cpF (A 30) (24 * b) (i + 1))) 31 (cpF (A 31) (24 * b) (i + 1)) 33 = cpF (A 33) (24 * b) i := by rw [ua_n (by decide), ua_n (by decide)]; rfl
    have r3 : xaI g2 33 (nI i) = some (A 33 i) := by rw [xaI_at M2.a33 (by omega) (by decide), q33, cpF_lo (by omega)]
    have s3 : xaS g2 33 (nI (24 * b + i)) (A 33 i) = some (va_up g2 33 (.inl (.int, (984, .inl (cpF (A 33) (24 * b) (i + 1)))))) := by
      rw [xaS_at M2.a33 (by omega) (by decide), q33, cpF_s]
    have M3 := (M2.u33 (cpF (A 33) (24 * b) (i + 1))).co (A' := KA A b (i + 1) 0) (fun j j1 j2 => by
      by_cases e3 : j = 33
      · rw [e3, ua_s]; rfl
      · rw [ua_n e3]
        by_cases e1 : j = 31
        · rw [e1, ua_s]; rfl
        · rw [ua_n e1]
          by_cases e0 : j = 30
          · rw [e0, ua_s]; rfl
          · rw [ua_n e0]
            unfold KA
            simp only [if_neg e0, if_neg e1, if_neg e3])
    obtain ⟨g', a1, a2, a3⟩ := ih (i + 1) f _ (by omega) (by omega) M3
    refine ⟨g', ?_, a2, fun j hj => by rw [a3 j hj, up_n (by omega), ← hg2, up_n (by omega), ← hg1, up_n (by omega)]⟩
    simp only [D_M_keep_14, M.g14, M1.g15, M2.g17, xb1_some, r1, r2, r3, e24, s1, s2, s3, nI_1]
    rw [if_neg (show ¬ (24 : Int32) ≤ nI i from nI_ge (b := 24) (by omega) (by decide))]
    exact a1
theorem keep_eq {g : XH} (hb : 1 ≤ b ∧ b ≤ 40) (M : CM g A cd c tc bu B) : ∃ g', X_M_keep 20 (nI b) g = some g' ∧ CM g' (KA A b 24 25) cd c tc bu B ∧ ∀ j, j < 29 ∨ 34 < j → g' j = g j := by
  have e0 : xaI g 29 (0 : Int32) = some (A 29 0) := xaI_at (i := 0) M.a29 (by decide) (by decide)
  have s1 : xaS g 29 (nI b) (A 29 0) = some (va_up g 29 (.inl (.int, (41, .inl (upd (A 29) b (A 29 0)))))) := xaS_at M.a29 (by omega) (by decide)
  have M1 := (M.u29 (upd (A 29) b (A 29 0))).co (A' := KA A b 0 0) (fun j j1 j2 => by
    by_cases e : j = 29
    · rw [e, ua_s]; rfl
    · rw [ua_n e]
      unfold KA
      rw [if_neg e, cpF_0, cpF_0, cpF_0, cpF_0]
      by_cases e0 : j = 30
      · rw [if_pos e0, e0]
      · rw [if_neg e0]
        by_cases e1 : j = 31
        · rw [if_pos e1, e1]
        · rw [if_neg e1]
          by_cases e2 : j = 33
          · rw [if_pos e2, e2]
          · rw [if_neg e2]
            by_cases e3 : j = 32
            · rw [if_pos e3, e3]
            · rw [if_neg e3])
  obtain ⟨g', a1, a2, a3⟩ := keep1 hb 24 0 5000 _ (by omega) (by omega) M1
  refine ⟨g', ?_, a2, fun j hj => by rw [a3 j hj, up_n (by omega)]⟩
  unfold X_M_keep D_M_keep_0
  simp only [M.g13, xb1_some, e0, s1]
  exact a1
end Kp
/-! is there room for the tasks of each core? -/
section Ck
variable {h : XH} {c : Nat} {pe co sp rd wr : Nat → Int32}
theorem cchk_ok (H : CU h c pe co sp rd wr) (hc : c ≤ 24) (u : xgR h 0 0 1 = some 2) (n : Nat) : ∀ d k f, k + d = 5 → (∀ j, k ≤ j → j ≤ 4 → tonF pe co (nI j) c ≤ 12) → D_T_build_7 (f + d) 1 (nI k) n h = D_T_build_7 f 1 5 n h := by
  intro d
  induction d with
  | zero =>
    intro k f hk _
    obtain rfl : k = 5 := by omega
    rfl
  | succ d ih =>
    intro k f hk ok
    have l := ok k (Nat.le_refl k) (by omega)
    rw [show f + (d + 1) = f + d + 1 by omega]
    simp only [D_T_build_7, u, H.i, xchk_true, tasksOn_eq H hc, xb1_some, nI_1]
    rw [if_neg (show ¬ (4 : Int32) < nI k from nI_nlt (a := 4) (by omega) (by decide)), if_pos (show nI (tonF pe co (nI k) c) ≤ (12 : Int32) from nI_le (b := 12) l (by decide))]
    exact ih (k + 1) f (by omega) (fun j a b => ok j (by omega) b)
theorem cchk_no (H : CU h c pe co sp rd wr) (hc : c ≤ 24) (u : xgR h 0 0 1 = some 2) (n : Nat) : ∀ d k f, k + d = 5 → (∃ j, k ≤ j ∧ j ≤ 4 ∧ ¬ tonF pe co (nI j) c ≤ 12) → D_T_build_7 (f + d) 1 (nI k) n h = some (-4, n, h) := by
  intro d
  induction d with
  | zero => rintro k f hk ⟨j, a, b, -⟩; omega
  | succ d ih =>
    rintro k f hk ⟨j, a, b, e⟩
    have l := tonF_le pe co (nI k) c
    rw [show f + (d + 1) = f + d + 1 by omega]
    simp only [D_T_build_7, u, H.i, xchk_true, tasksOn_eq H hc, xb1_some, nI_1]
    rw [if_neg (show ¬ (4 : Int32) < nI k from nI_nlt (a := 4) (by omega) (by decide))]
    by_cases q : tonF pe co (nI k) c ≤ 12
    · rw [if_pos (show nI (tonF pe co (nI k) c) ≤ (12 : Int32) from nI_le (b := 12) q (by decide))]
      refine ih (k + 1) f (by omega) ⟨j, ?_, b, e⟩
      have : j ≠ k := fun z => e (by rw [z]; exact q)
      omega
    · rw [if_neg (show ¬ nI (tonF pe co (nI k) c) ≤ (12 : Int32) from nI_ge (a := 12) (by omega) (by omega))]
theorem mchk_ok (H : MU h c pe co sp) (hc : c ≤ 24) : ∀ d k f, k + d = 5 → (∀ j, k ≤ j → j ≤ 4 → tonF pe co (nI j) c ≤ 12) → D_M_build_12 (f + d) 20 (nI k) h = D_M_build_12 f 20 5 h := by
  intro d
  induction d with
  | zero =>
    intro k f hk _
    obtain rfl : k = 5 := by omega
    rfl
  | succ d ih =>
    intro k f hk ok
    have l := ok k (Nat.le_refl k) (by omega)
    rw [show f + (d + 1) = f + d + 1 by omega]
    simp only [D_M_build_12, H.i, xchk_true, mtasksOn_eq H hc, xb1_some, nI_1]
    rw [if_neg (show ¬ (4 : Int32) < nI k from nI_nlt (a := 4) (by omega) (by decide)), if_pos (show nI (tonF pe co (nI k) c) ≤ (12 : Int32) from nI_le (b := 12) l (by decide))]
    exact ih (k + 1) f (by omega) (fun j a b => ok j (by omega) b)
theorem mchk_no (H : MU h c pe co sp) (hc : c ≤ 24) : ∀ d k f, k + d = 5 → (∃ j, k ≤ j ∧ j ≤ 4 ∧ ¬ tonF pe co (nI j) c ≤ 12) → D_M_build_12 (f + d) 20 (nI k) h = some (-4, h) := by
  intro d
  induction d with
  | zero => rintro k f hk ⟨j, a, b, -⟩; omega
  | succ d ih =>
    rintro k f hk ⟨j, a, b, e⟩
    have l := tonF_le pe co (nI k) c
    rw [show f + (d + 1) = f + d + 1 by omega]
    simp only [D_M_build_12, H.i, xchk_true, mtasksOn_eq H hc, xb1_some, nI_1]
    rw [if_neg (show ¬ (4 : Int32) < nI k from nI_nlt (a := 4) (by omega) (by decide))]
    by_cases q : tonF pe co (nI k) c ≤ 12
    · rw [if_pos (show nI (tonF pe co (nI k) c) ≤ (12 : Int32) from nI_le (b := 12) q (by decide))]
      refine ih (k + 1) f (by omega) ⟨j, ?_, b, e⟩
      have : j ≠ k := fun z => e (by rw [z]; exact q)
      omega
    · rw [if_neg (show ¬ nI (tonF pe co (nI k) c) ≤ (12 : Int32) from nI_ge (a := 12) (by omega) (by omega))]
end Ck

/-! class and reference lay out the same -/
section Lb
variable {p c : Nat} {pe co sp rd wr tb ab ly tl : Nat → Int32} {cd : Int32} {tc B : Nat} {bu tcx : Int32} {pN cN : Nat → Nat}
theorem lay_both {h g : XH} {A : Nat → Nat → Int32} {N : Nat} {tO pO rO rw sO : Nat → Int32} (hc : c ≤ 24) (G : GI c tb ab) (hp : 13 ≤ p) (hN : ∀ r, 1 ≤ r → r ≤ c → pe r = nI (pN r) ∧ pN r ≤ 1000) (hC : ∀ r, 1 ≤ r → r ≤ c → co r = nI (cN r) ∧ 1 ≤ cN r ∧ cN r ≤ 4) (C : CP h p N tO pO rO rw sO) (s0 : sO 1 = 0) (z0 : ∀ r, r ≤ 24 → (r = 0 ∨ c < r) → tO r = 0) (hg : CG h tb ab ly tl tcx) (hu : CU h c pe co sp rd wr) (M : CM g A cd c tc bu B) (e29 : A 29 0 = 0) (h24 : A 24 = tb) (h21 : A 21 = pe) (h22 : A 22 = co) : ∃ h' g' A' T' S' W' K' Q' ps' rO', X_P_layOut p 2 8 h = some h' ∧ D_M_build_45 5000 20 1 g = D_M_build_45 4996 20 5 g' ∧ Sc h' g' p c pe co A' cd tc bu B cN 5 T' S' W' K' Q' ps' rO' ∧ MB A A' ∧ (∀ j, j < p ∨ p + 5 < j → h' j = h j) ∧ ∀ j, j < 29 ∨ 34 < j → g' j = g j := by
  have s1 : xp h 3 0 p (.int 0) = some (va_up h p (.inr (3, [.int (nI 0), .ref (p + 1), .ref (p + 2), .ref (p + 3), .ref (p + 4), .ref (p + 5)]))) := xp_at C.1 (show 0 < 6 by decide)
  generalize hg1 : va_up h p (.inr (3, [.int (nI 0), .ref (p + 1), .ref (p + 2), .ref (p + 3), .ref (p + 4), .ref (p + 5)])) = g1 at s1
  have f1 : ∀ j, j ≠ p → g1 j = h j := fun j hj => by rw [← hg1, up_n hj]
  have C1 : CP g1 p 0 tO pO rO rw sO := ⟨by rw [← hg1, up_s], by rw [f1 _ (by omega)]; exact C.2.1, by rw [f1 _ (by omega)]; exact C.2.2.1, by rw [f1 _ (by omega)]; exact C.2.2.2.1, by rw [f1 _ (by omega)]; exact C.2.2.2.2.1, by rw [f1 _ (by omega)]; exact C.2.2.2.2.2⟩
  have H : Sc g1 g p c pe co A cd tc bu B cN 1 0 (fun _ => 0) (fun _ => 0) (fun _ => 0) (fun _ => 0) 0 rO := by
    refine ⟨⟨⟨⟨by omega, rfl, by decide, fun t ht => by omega, fun t i ht => by omega, fun i j hi => absurd hi (Nat.not_lt_zero i)⟩, Nat.le_refl 0, Nat.zero_le _, fun i a b => absurd b (Nat.not_lt_zero i), fun i j a => absurd a (Nat.not_lt_zero i), fun r => ⟨fun z => (by rw [b_0] at z; cases z), fun ⟨i, a, _⟩ => absurd a (Nat.not_lt_zero i)⟩⟩, ⟨tO, pO, rw, sO, C1, fun t ht => ?_, fun i a => absurd a (Nat.not_lt_zero i), fun t ht => by omega, fun e => by omega, fun t i ht => by omega, fun i a b => absurd b (Nat.not_lt_zero i), z0⟩, M, ⟨e29, fun t ht => by omega, fun i a => absurd a (Nat.not_lt_zero i)⟩, fun i a => absurd a (Nat.not_lt_zero i), fun t i ht => by omega, fun i a b => absurd b (Nat.not_lt_zero i)⟩, fun r => ?_, fun t a b => by omega, fun t a b => by omega⟩
    · obtain rfl : t = 0 := by omega
      exact s0
    · rw [b_0]
      refine (decide_eq_false ?_).symm
      rintro ⟨a, b, d⟩
      have := (hC r a b).2.1
      omega
  obtain ⟨h', g', A', T', S', W', K', Q', ps', rO', a1, a2, a3, a4, a5, a6⟩ := cores_eq (cd := cd) (tc := tc) (bu := bu) (B := B) hc G hp hN hC 4 1 4995 4996 g1 g A 0 _ _ _ _ _ _ (by omega) (by omega) H (hg.fr (fun j j1 j2 => f1 j (by omega))) (hu.fr (fun j j1 j2 => f1 j (by omega))) h24 h21 h22
  refine ⟨h', g', A', T', S', W', K', Q', ps', rO', ?_, a2, a3, a4, fun j hj => by rw [a5 j hj, f1 j (by omega)], a6⟩
  unfold X_P_layOut D_P_layOut_0
  rw [s1, xb1_some]
  exact a1
end Lb
/-! blocks under what the reference writes -/
section Bl
variable {A A' : Nat → Nat → Int32} {T b b' : Nat} {S W : Nat → Nat} {K Q : Nat → Int32}
theorem MB.block (H : MB A A') (hb : 1 ≤ b) (L : BlockIs T S W K Q b (A 29) (A 30) (A 31) (A 32) (A 33)) : BlockIs T S W K Q b (A' 29) (A' 30) (A' 31) (A' 32) (A' 33) := by
  refine ⟨by rw [H.2.1 b hb]; exact L.1, fun t ht => ?_, fun i hi => ?_⟩
  · obtain ⟨a, d, e⟩ := L.2.1 t ht
    exact ⟨by rw [(H.2.2.1 _ (by omega)).1]; exact a, by rw [(H.2.2.1 _ (by omega)).2.1]; exact d, by rw [H.2.2.2 _ (by omega)]; exact e⟩
  · rw [(H.2.2.1 _ (by omega)).2.2]; exact L.2.2 i hi
theorem KA.block0 (hb : 1 ≤ b) (hT : T ≤ 24) (hS : S T ≤ 24) (L : BlockIs T S W K Q 0 (A 29) (A 30) (A 31) (A 32) (A 33)) : BlockIs T S W K Q 0 (KA A b 24 25 29) (KA A b 24 25 30) (KA A b 24 25 31) (KA A b 24 25 32) (KA A b 24 25 33) := by
  refine ⟨by rw [KA_29, upd_n (by omega)]; exact L.1, fun t ht => ?_, fun i hi => ?_⟩
  · obtain ⟨a, d, e⟩ := L.2.1 t ht
    exact ⟨by rw [KA_30, cpF_lo (by omega)]; exact a, by rw [KA_31, cpF_lo (by omega)]; exact d, by rw [KA_32, cpF_lo (by omega)]; exact e⟩
  · rw [KA_33, cpF_lo (by omega)]; exact L.2.2 i hi
theorem KA.blockb (hT : T ≤ 24) (hS : S T ≤ 24) (L : BlockIs T S W K Q 0 (A 29) (A 30) (A 31) (A 32) (A 33)) : BlockIs T S W K Q b (KA A b 24 25 29) (KA A b 24 25 30) (KA A b 24 25 31) (KA A b 24 25 32) (KA A b 24 25 33) := by
  refine ⟨by rw [KA_29, upd_s]; exact L.1, fun t ht => ?_, fun i hi => ?_⟩
  · obtain ⟨a, d, e⟩ := L.2.1 t ht
    rw [show 24 * 0 + t = t by omega] at a d
    rw [show 25 * 0 + (t + 1) = t + 1 by omega] at e
    exact ⟨by rw [KA_30, cpF_in (by omega)]; exact a, by rw [KA_31, cpF_in (by omega)]; exact d, by rw [KA_32, cpF_in (by omega)]; exact e⟩
  · have := L.2.2 i hi
    rw [show 24 * 0 + i = i by omega] at this
    rw [KA_33, cpF_in (by omega)]; exact this
theorem cpF_other {F : Nat → Int32} {m b b' j : Nat} (hb : b' ≠ b) (hj : j < m) : cpF F (m * b) m (m * b' + j) = F (m * b' + j) := by
  rcases Nat.lt_or_ge b' b with q | q
  · refine cpF_lo ?_
    have : m * (b' + 1) ≤ m * b := Nat.mul_le_mul_left m (by omega)
    rw [Nat.mul_add, Nat.mul_one] at this
    omega
  · refine cpF_hi ?_
    have : m * (b + 1) ≤ m * b' := Nat.mul_le_mul_left m (by omega)
    rw [Nat.mul_add, Nat.mul_one] at this
    omega
theorem KA.blockn (hb : b' ≠ b) (hT : T ≤ 24) (hS : S T ≤ 24) (L : BlockIs T S W K Q b' (A 29) (A 30) (A 31) (A 32) (A 33)) : BlockIs T S W K Q b' (KA A b 24 25 29) (KA A b 24 25 30) (KA A b 24 25 31) (KA A b 24 25 32) (KA A b 24 25 33) := by
  refine ⟨by rw [KA_29, upd_n hb]; exact L.1, fun t ht => ?_, fun i hi => ?_⟩
  · obtain ⟨a, d, e⟩ := L.2.1 t ht
    exact ⟨by rw [KA_30, cpF_other hb (by omega)]; exact a, by rw [KA_31, cpF_other hb (by omega)]; exact d, by rw [KA_32, cpF_other hb (by omega)]; exact e⟩
  · rw [KA_33, cpF_other hb (by omega)]; exact L.2.2 i hi
end Bl
/-- rows with those of a plan set -/
def pa (A : Nat → Nat → Int32) (p : Nat) (tO pO rO rw sO : Nat → Int32) : Nat → Nat → Int32 := fun j => if j = p + 1 then tO else if j = p + 2 then pO else if j = p + 3 then rO else if j = p + 4 then rw else if j = p + 5 then sO else A j
section Pa
variable {A : Nat → Nat → Int32} {p : Nat} {tO pO rO rw sO : Nat → Int32}
theorem pa_1 : pa A p tO pO rO rw sO (p + 1) = tO := if_pos rfl
theorem pa_2 : pa A p tO pO rO rw sO (p + 2) = pO := by unfold pa; rw [if_neg (by omega), if_pos rfl]
theorem pa_3 : pa A p tO pO rO rw sO (p + 3) = rO := by unfold pa; rw [if_neg (by omega), if_neg (by omega), if_pos rfl]
theorem pa_4 : pa A p tO pO rO rw sO (p + 4) = rw := by unfold pa; rw [if_neg (by omega), if_neg (by omega), if_neg (by omega), if_pos rfl]
theorem pa_5 : pa A p tO pO rO rw sO (p + 5) = sO := by unfold pa; rw [if_neg (by omega), if_neg (by omega), if_neg (by omega), if_neg (by omega), if_pos rfl]
theorem pa_n {j : Nat} (h : j ≤ p ∨ p + 5 < j) : pa A p tO pO rO rw sO j = A j := by unfold pa; rw [if_neg (by omega), if_neg (by omega), if_neg (by omega), if_neg (by omega), if_neg (by omega)]
end Pa
/-- a finished layout is a plan, and everything has its place -/
theorem Sc.plan {h g : XH} {p c : Nat} {pe co : Nat → Int32} {A : Nat → Nat → Int32} {cd : Int32} {tc : Nat} {bu : Int32} {B : Nat} {cN : Nat → Nat} {T : Nat} {S W : Nat → Nat} {K Q : Nat → Int32} {ps : Int32} {rO : Nat → Int32} (H : Sc h g p c pe co A cd tc bu B cN 5 T S W K Q ps rO) (hC : ∀ r, 1 ≤ r → r ≤ c → co r = nI (cN r) ∧ 1 ≤ cN r ∧ cN r ≤ 4) : ∃ tO pO rw sO, CP h p T tO pO rO rw sO ∧ PlanIs T S W K Q T tO pO rO rw sO ∧ sO 1 = 0 ∧ (∀ r, r ≤ 24 → (r = 0 ∨ c < r) → tO r = 0) ∧ BW c pe co T S W K Q ∧ BlockIs T S W K Q 0 (A 29) (A 30) (A 31) (A 32) (A 33) ∧ ∀ r, 1 ≤ r → r ≤ c → ∃ t i, t < T ∧ S t ≤ i ∧ i < S (t + 1) ∧ W i = r ∧ A 34 r = nI (t + 1) := by
  obtain ⟨⟨b, ⟨tO, pO, rw, sO, C, k1, k2, k3, k4, k5, k6, k7⟩, M, m1, m2, m3, m4⟩, hb, hr, hK⟩ := H
  have place : ∀ r, 1 ≤ r → r ≤ c → ∃ i, i < S T ∧ W i = r := fun r r1 r2 => by
    apply (b.2.2.2.2.2 r).mp
    rw [hb r]
    exact decide_eq_true ⟨r1, r2, by have := (hC r r1 r2).2.2; omega⟩
  have which : ∀ n, n ≤ T → ∀ i, i < S n → ∃ u, u < n ∧ S u ≤ i ∧ i < S (u + 1) := by
    intro n
    induction n with
    | zero => intro _ i hi; rw [b.1.2.1] at hi; omega
    | succ n ih =>
      intro hn i hi
      rcases Nat.lt_or_ge i (S n) with q | q
      · obtain ⟨u, u1, u2⟩ := ih (by omega) i q
        exact ⟨u, by omega, u2⟩
      · exact ⟨n, by omega, q, hi⟩
  refine ⟨tO, pO, rw, sO, C, ⟨rfl, k1, k2, k3, hr, k5, fun r hr' hn => k7 r hr' ?_⟩, by rw [k1 0 (by omega), b.1.2.1]; rfl, k7, b.1, m1, fun r r1 r2 => ?_⟩
  · rcases Nat.eq_zero_or_pos r with q | q
    · exact Or.inl q
    · rcases Nat.lt_or_ge c r with v | v
      · exact Or.inr v
      · obtain ⟨i, i1, i2⟩ := place r q v
        exact absurd i2 (hn i i1)
  · obtain ⟨i, i1, i2⟩ := place r r1 r2
    obtain ⟨t, t1, t2, t3⟩ := which T (Nat.le_refl T) i i1
    exact ⟨t, i, t1, t2, t3, i2, by rw [← i2]; exact m3 t i t1 t2 t3⟩

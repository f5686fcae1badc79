/-! ring(i) -/
theorem op_ring {m n : Nat} {h : XH} (I : Inv m n h) (x : Int32) : ∃ v h', X_T_ring 1 x h = some v ∧ X_M_ring 20 x h = some (v, h') ∧ Inv m n h' := by
  obtain ⟨A, PT, cd, c, tc, kc, B, bl, bu, C, hn, hB, RU, RG, R⟩ := I
  have C1 := C.code
  have M1 := C1.2.2.2.1
  have G := C.2.2.1
  have hc0 := RG.2.1
  refine ⟨if x < 0 ∨ nI tc ≤ x then 0 else A 12 x.toNatClampNeg, va_up h 20 (mO 0 c (nI tc) bu (nI B)), ?_, ?_, ⟨A, PT, 0, c, tc, kc, B, bl, bu, C1, hn, hB, RU, RG, R⟩⟩
  · unfold X_T_ring D_T_ring_0 X_G_toldAt D_G_toldAt_0 D_G_toldAt_21 D_G_toldAt_22
    rw [C.1.g, xb1_some, G.i, xchk_true]
    rcases i_cases x with hx | ⟨j, hj, rfl⟩
    · rw [if_pos hx, if_pos (Or.inl hx)]; rfl
    · rw [if_neg (nI_pos hj), G.n, xb1_some]
      by_cases q : nI tc ≤ nI j
      · rw [if_pos q, if_pos (Or.inr q)]; rfl
      · rw [if_neg q, if_neg (fun z => z.elim (nI_pos hj) q)]
        have q2 : j < tc := by
          rcases Nat.lt_or_ge j tc with z | z
          · exact z
          · exact absurd (nI_le z hj) q
        rw [G.o, xb1_some, xaI_at G.2.2.2.2 (show j < 24 by omega) (by decide), xb1_some, nI_clamp hj]; rfl
  · unfold X_M_ring D_M_ring_0 D_M_ring_26 D_M_ring_27
    rw [C.2.2.2.1.code0, xb1_some]
    rcases i_cases x with hx | ⟨j, hj, rfl⟩
    · rw [if_pos hx, if_pos (Or.inl hx)]
    · rw [if_neg (nI_pos hj), M1.grs, xb1_some]
      by_cases q : nI tc ≤ nI j
      · rw [if_pos q, if_pos (Or.inr q)]
      · rw [if_neg q, if_neg (fun z => z.elim (nI_pos hj) q)]
        have q2 : j < tc := by
          rcases Nat.lt_or_ge j tc with z | z
          · exact z
          · exact absurd (nI_le z hj) q
        rw [M1.g9, xb1_some, xaI_at M1.a27 (show j < 25 by omega) (by decide), xb1_some, nI_clamp hj, RG.2.2 j q2]

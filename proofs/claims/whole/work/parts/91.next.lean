/-! a new plan -/
def zF : Nat → Int32 := fun _ => 0
theorem pinit_eq {h : XH} {p : Nat} (e : h p = .inr (3, [.int 0, .null, .null, .null, .null, .null])) : ∃ h', X_P_init p p h = some (p + 5, h') ∧ CP h' p 0 zF zF zF zF zF ∧ ∀ j, j < p ∨ p + 5 < j → h' j = h j := by
  unfold X_P_init D_P_init_0
  simp only [xb1_some, Nat.add_assoc, Nat.reduceAdd]
  have a1 : (va_up h (p + 1) (.inl (.int, (25, .inl (fun _ => 0))))) p = .inr (3, [.int 0, .null, .null, .null, .null, .null]) := by rw [up_n (by omega)]; exact e
  rw [xp_at a1 (show 1 < 6 by decide), xb1_some]
  generalize hg1 : va_up (va_up h (p + 1) (.inl (.int, (25, .inl (fun _ => 0))))) p (.inr (3, List.set [.int 0, .null, .null, .null, .null, .null] 1 (.ref (p + 1)))) = g1
  have b0 : g1 p = .inr (3, [.int 0, .ref (p + 1), .null, .null, .null, .null]) := by rw [← hg1, up_s]; rfl
  have b1 : g1 (p + 1) = .inl (.int, (25, .inl zF)) := by rw [← hg1, up_n (by omega), up_s]; rfl
  have bf : ∀ j, j ≠ p → j ≠ p + 1 → g1 j = h j := fun j j0 j1 => by rw [← hg1, up_n j0, up_n j1]
  have a2 : (va_up g1 (p + 2) (.inl (.int, (25, .inl (fun _ => 0))))) p = .inr (3, [.int 0, .ref (p + 1), .null, .null, .null, .null]) := by rw [up_n (by omega)]; exact b0
  rw [xp_at a2 (show 2 < 6 by decide), xb1_some]
  generalize hg2 : va_up (va_up g1 (p + 2) (.inl (.int, (25, .inl (fun _ => 0))))) p (.inr (3, List.set [.int 0, .ref (p + 1), .null, .null, .null, .null] 2 (.ref (p + 2)))) = g2
  have c0 : g2 p = .inr (3, [.int 0, .ref (p + 1), .ref (p + 2), .null, .null, .null]) := by rw [← hg2, up_s]; rfl
  have c2 : g2 (p + 2) = .inl (.int, (25, .inl zF)) := by rw [← hg2, up_n (by omega), up_s]; rfl
  have cf : ∀ j, j ≠ p → j ≠ p + 2 → g2 j = g1 j := fun j j0 j1 => by rw [← hg2, up_n j0, up_n j1]
  have a3 : (va_up g2 (p + 3) (.inl (.int, (25, .inl (fun _ => 0))))) p = .inr (3, [.int 0, .ref (p + 1), .ref (p + 2), .null, .null, .null]) := by rw [up_n (by omega)]; exact c0
  rw [xp_at a3 (show 3 < 6 by decide), xb1_some]
  generalize hg3 : va_up (va_up g2 (p + 3) (.inl (.int, (25, .inl (fun _ => 0))))) p (.inr (3, List.set [.int 0, .ref (p + 1), .ref (p + 2), .null, .null, .null] 3 (.ref (p + 3)))) = g3
  have d0 : g3 p = .inr (3, [.int 0, .ref (p + 1), .ref (p + 2), .ref (p + 3), .null, .null]) := by rw [← hg3, up_s]; rfl
  have d3 : g3 (p + 3) = .inl (.int, (25, .inl zF)) := by rw [← hg3, up_n (by omega), up_s]; rfl
  have df : ∀ j, j ≠ p → j ≠ p + 3 → g3 j = g2 j := fun j j0 j1 => by rw [← hg3, up_n j0, up_n j1]
  have a4 : (va_up g3 (p + 4) (.inl (.int, (24, .inl (fun _ => 0))))) p = .inr (3, [.int 0, .ref (p + 1), .ref (p + 2), .ref (p + 3), .null, .null]) := by rw [up_n (by omega)]; exact d0
  rw [xp_at a4 (show 4 < 6 by decide), xb1_some]
  generalize hg4 : va_up (va_up g3 (p + 4) (.inl (.int, (24, .inl (fun _ => 0))))) p (.inr (3, List.set [.int 0, .ref (p + 1), .ref (p + 2), .ref (p + 3), .null, .null] 4 (.ref (p + 4)))) = g4
  have e0 : g4 p = .inr (3, [.int 0, .ref (p + 1), .ref (p + 2), .ref (p + 3), .ref (p + 4), .null]) := by rw [← hg4, up_s]; rfl
  have e4 : g4 (p + 4) = .inl (.int, (24, .inl zF)) := by rw [← hg4, up_n (by omega), up_s]; rfl
  have ef : ∀ j, j ≠ p → j ≠ p + 4 → g4 j = g3 j := fun j j0 j1 => by rw [← hg4, up_n j0, up_n j1]
  have a5 : (va_up g4 (p + 5) (.inl (.int, (26, .inl (fun _ => 0))))) p = .inr (3, [.int 0, .ref (p + 1), .ref (p + 2), .ref (p + 3), .ref (p + 4), .null]) := by rw [up_n (by omega)]; exact e0
  rw [xp_at a5 (show 5 < 6 by decide), xb1_some]
  generalize hg5 : va_up (va_up g4 (p + 5) (.inl (.int, (26, .inl (fun _ => 0))))) p (.inr (3, List.set [.int 0, .ref (p + 1), .ref (p + 2), .ref (p + 3), .ref (p + 4), .null] 5 (.ref (p + 5)))) = g5
  have f0 : g5 p = .inr (3, [.int 0, .ref (p + 1), .ref (p + 2), .ref (p + 3), .ref (p + 4), .ref (p + 5)]) := by rw [← hg5, up_s]; rfl
  have f5 : g5 (p + 5) = .inl (.int, (26, .inl zF)) := by rw [← hg5, up_n (by omega), up_s]; rfl
  have ff : ∀ j, j ≠ p → j ≠ p + 5 → g5 j = g4 j := fun j j0 j1 => by rw [← hg5, up_n j0, up_n j1]
  refine ⟨g5, rfl, ⟨f0, ?_, ?_, ?_, ?_, f5⟩, fun j hj => ?_⟩
  · rw [ff _ (by omega) (by omega), ef _ (by omega) (by omega), df _ (by omega) (by omega), cf _ (by omega) (by omega)]; exact b1
  · rw [ff _ (by omega) (by omega), ef _ (by omega) (by omega), df _ (by omega) (by omega)]; exact c2
  · rw [ff _ (by omega) (by omega), ef _ (by omega) (by omega)]; exact d3
  · rw [ff _ (by omega) (by omega)]; exact e4
  · rw [ff _ (by omega) (by omega), ef _ (by omega) (by omega), df _ (by omega) (by omega), cf _ (by omega) (by omega), bf _ (by omega) (by omega)]
theorem kfF_s (kc : Nat) : va_up (kfF kc) kc (some (35 + 6 * kc)) = kfF (kc + 1) := by
  funext j
  by_cases e : j = kc
  · rw [e, va_up_self]
    unfold kfF
    rw [if_pos (by omega)]
  · rw [va_up_ne _ _ e]
    unfold kfF
    by_cases q : j < kc
    · rw [if_pos q, if_pos (by omega)]
    · rw [if_neg q, if_neg (by omega)]
theorem CT.len {h : XH} {kc : Nat} {bl : Option Nat} (H : CT h kc bl) : xaN h 13 = some (nI 40) := by
  unfold xaN
  rw [H.2]
  rfl
theorem next_new {h : XH} {kc n : Nat} (H : CT h kc none) (hn : n = 34 + 6 * kc) (hk : kc < 40) : ∃ h', X_T_nextPlan 1 n h = some (n + 1, n + 6, h') ∧ CT h' (kc + 1) none ∧ CP h' (n + 1) 0 zF zF zF zF zF ∧ ∀ j, j ≠ 1 → j ≠ 13 → (j < n + 1 ∨ n + 6 < j) → h' j = h j := by
  obtain ⟨g1, a1, a2, a3⟩ := pinit_eq (h := va_up h (n + 1) (.inr (3, [.int 0, .null, .null, .null, .null, .null]))) (p := n + 1) up_s
  have f1 : ∀ j, j < n + 1 ∨ n + 6 < j → g1 j = h j := fun j hj => by rw [a3 j (by omega), up_n (by omega)]
  have T1 : CT g1 kc none := H.fr (fun j hj => f1 j (by omega))
  have s1 : xaQ g1 "TaskBuild$Plan" 3 13 (nI kc) (n + 1) = some (va_up g1 13 (.inl (.object "TaskBuild$Plan", (40, .inr (.inr (.inr (.inr (kfF (kc + 1)))))))) ) := by
    unfold xaQ
    rw [T1.2]
    simp only []
    rw [if_pos ⟨trivial, a2.i, n_in hk (by decide)⟩, nI_clamp (by omega), hn, show 34 + 6 * kc + 1 = 35 + 6 * kc by omega, kfF_s]
  generalize hg2 : va_up g1 13 (.inl (.object "TaskBuild$Plan", (40, .inr (.inr (.inr (.inr (kfF (kc + 1)))))))) = g2 at s1
  have e1 : g2 1 = .inr (0, [.ref 2, .ref 8, .ref 13, .int (nI kc), .ref 14, va_rf none]) := by rw [← hg2, up_n (by decide)]; exact T1.1
  have s2 : xp g2 0 3 1 (.int (nI (kc + 1))) = some (va_up g2 1 (.inr (0, [.ref 2, .ref 8, .ref 13, .int (nI (kc + 1)), .ref 14, va_rf none]))) := xp_at e1 (show 3 < 6 by decide)
  refine ⟨va_up g2 1 (.inr (0, [.ref 2, .ref 8, .ref 13, .int (nI (kc + 1)), .ref 14, va_rf none])), ?_, ⟨up_s, by rw [up_n (by decide), ← hg2, up_s]⟩, a2.fr (fun j j1 j2 => by rw [up_n (by omega), ← hg2, up_n (by omega)]), fun j j1 j2 j3 => by rw [up_n j1, ← hg2, up_n j2, f1 j j3]⟩
  unfold X_T_nextPlan D_T_nextPlan_0
  simp only [H.n, H.k, H.len, xb1_some, a1, xb2_some, T1.k, T1.n, s1, xgI_at (k := 3) e1 rfl, nI_1, s2]
  rw [if_pos (nI_lt hk (by decide))]
theorem next_old {h : XH} {n : Nat} (H : CT h 40 none) : X_T_nextPlan 1 n h = some (14, n, h) := by
  unfold X_T_nextPlan D_T_nextPlan_0
  simp only [H.n, H.k, H.len, H.un, xb1_some]
  rw [if_neg (nI_nlt (Nat.le_refl 40) (by decide))]

section Fl
variable {h g : XH} {p c T : Nat} {S W : Nat → Nat} {K Q rO : Nat → Int32} {q : Nat} {x y : Int32} {ps : Int32} {pe co : Nat → Int32} {L : Int32} {A : Nat → Nat → Int32} {cd : Int32} {tc B : Nat} {bu : Int32}
theorem class_step (H : PC h p c (T + 1) T S W Q q y rO) (BH : BP c pe co T S W K Q q x y ps) (hc : c ≤ 24) (h0 : L ≠ 0) (hp : 13 ≤ p) (hi : xis h 2 8 = true) {r : Nat} (r1 : 1 ≤ r) (r2 : r ≤ c) (hn : bt ps r = false) (hq : q + 1 ≤ 24) (hl : X_G_leastFree 8 L h = some (nI r)) (f : Nat) : ∃ h2, D_P_addTask_44 (f + 1) p 8 L (nI q) h = D_P_addTask_44 f p 8 (L &&& (((1 : Int32) <<< (nI r &&& 31)) ^^^ (-1))) (nI (q + 1)) h2 ∧ PC h2 p c (T + 1) T S (un W q r) Q (q + 1) y rO ∧ ∀ j, j < p ∨ p + 5 < j → h2 j = h j := by
  obtain ⟨tO, pO, rw, sO, C, k1, k2, k3, k4, k5, k6, k7⟩ := H
  have np : ∀ i, i < q → W i ≠ r := fun i hi' e => by
    have := (BH.2.2.2.2.2 r).mpr ⟨i, hi', e⟩
    rw [hn] at this; cases this
  have mo := BH.1.mono
  have hST := BH.2.1
  have s1 : xaN h (p + 4) = some (nI 24) := xaN_at C.2.2.2.2.1
  have s2 : xaS h (p + 4) (nI q) (nI r) = some (va_up h (p + 4) (.inl (.int, (24, .inl (upd rw q (nI r)))))) := xaS_at C.2.2.2.2.1 (by omega) (by decide)
  generalize hg1 : va_up h (p + 4) (.inl (.int, (24, .inl (upd rw q (nI r))))) = g1 at s2
  have f1 : ∀ j, j ≠ p + 4 → g1 j = h j := fun j hj => by rw [← hg1, up_n hj]
  have c0 : g1 p = .inr (3, [.int (nI (T + 1)), .ref (p + 1), .ref (p + 2), .ref (p + 3), .ref (p + 4), .ref (p + 5)]) := by rw [f1 p (by omega)]; exact C.1
  have c1 : g1 (p + 1) = .inl (.int, (25, .inl tO)) := by rw [f1 _ (by omega)]; exact C.2.1
  have s3 : xaS g1 (p + 1) (nI r) (nI (T + 1)) = some (va_up g1 (p + 1) (.inl (.int, (25, .inl (upd tO r (nI (T + 1))))))) := xaS_at c1 (by omega) (by decide)
  refine ⟨va_up g1 (p + 1) (.inl (.int, (25, .inl (upd tO r (nI (T + 1)))))), ?_, ⟨upd tO r (nI (T + 1)), pO, upd rw q (nI r), sO, ?_, k1, ?_, k3, k4, ?_, ?_, ?_⟩, fun j hj => by rw [up_n (by omega), f1 j (by omega)]⟩
  · simp only [D_P_addTask_44, C.ro, xb1_some, s1, hi, xchk_true, hl, s2, xgR_at (k := 1) c0 rfl, xgI_at (k := 0) c0 rfl, s3, nI_1]
    rw [if_neg h0, if_neg (nI_ge (by omega) (by omega))]
  · exact ⟨by rw [up_n (by omega)]; exact c0, up_s, by rw [up_n (by omega), f1 _ (by omega)]; exact C.2.2.1, by rw [up_n (by omega), f1 _ (by omega)]; exact C.2.2.2.1, by rw [up_n (by omega), ← hg1, up_s], by rw [up_n (by omega), f1 _ (by omega)]; exact C.2.2.2.2.2⟩
  · intro i hi'
    by_cases e : i = q
    · rw [e, upd_s, un_s]
    · rw [upd_n e, un_n e]; exact k2 i (by omega)
  · intro t i a b d
    have := mo (t + 1) T (by omega) (Nat.le_refl T)
    rw [un_n (by omega), upd_n (np i (by omega))]
    exact k5 t i a b d
  · intro i a b
    by_cases e : i = q
    · rw [e, un_s, upd_s]
    · rw [un_n e, upd_n (np i (by omega))]; exact k6 i a (by omega)
  · intro r' a b
    rw [upd_n (by omega)]; exact k7 r' a b
theorem class_fin (H : PC h p c (T + 1) T S W Q q y rO) (hT : T < 24) (f : Nat) : ∃ h2, D_P_addTask_44 (f + 1) p 8 0 (nI q) h = some h2 ∧ PC h2 p c (T + 1) (T + 1) (un S (T + 1) q) W (upd Q (T + 1) y) q y rO ∧ ∀ j, j < p ∨ p + 5 < j → h2 j = h j := by
  obtain ⟨tO, pO, rw, sO, C, k1, k2, k3, k4, k5, k6, k7⟩ := H
  have s1 : xaS h (p + 5) (nI (T + 1 + 1)) (nI q) = some (va_up h (p + 5) (.inl (.int, (26, .inl (upd sO (T + 1 + 1) (nI q)))))) := xaS_at C.2.2.2.2.2 (by omega) (by decide)
  refine ⟨va_up h (p + 5) (.inl (.int, (26, .inl (upd sO (T + 1 + 1) (nI q))))), ?_, ⟨tO, pO, rw, upd sO (T + 1 + 1) (nI q), ?_, ?_, k2, ?_, fun e => by omega, ?_, fun i a b => ?_, k7⟩, fun j hj => by rw [up_n (by omega)]⟩
  · simp only [D_P_addTask_44, D_P_addTask_104, C.st, C.cn, xb1_some, nI_1, s1]
    rfl
  · exact ⟨by rw [up_n (by omega)]; exact C.1, by rw [up_n (by omega)]; exact C.2.1, by rw [up_n (by omega)]; exact C.2.2.1, by rw [up_n (by omega)]; exact C.2.2.2.1, by rw [up_n (by omega)]; exact C.2.2.2.2.1, up_s⟩
  · intro t ht
    by_cases e : t = T + 1
    · rw [e, upd_s, un_s]
    · rw [upd_n (by omega), un_n e]; exact k1 t (by omega)
  · intro t ht
    by_cases e : t = T
    · rw [e, upd_s]; exact k4 rfl
    · rw [upd_n (by omega)]; exact k3 t (by omega)
  · intro t i a b d
    by_cases e : t = T
    · rw [e, un_s] at d
      rw [e, un_n (by omega)] at b
      rw [e]; exact k6 i b d
    · rw [un_n (by omega)] at b d
      exact k5 t i (by omega) b d
  · rw [un_s] at a; omega
theorem model_step (H : MC A T S W K Q q) (M : CM g A cd c tc bu B) (BH : BP c pe co T S W K Q q x y ps) (hc : c ≤ 24) (h0 : L ≠ 0) {ab : Nat → Int32} (G : GI c (A 24) ab) (hL : ∀ r, bt L r = true → 1 ≤ r ∧ r ≤ c) {r : Nat} (r1 : 1 ≤ r) (r2 : r ≤ c) (hn : bt ps r = false) (hq : q + 1 ≤ 24) (hf : frF ab L r) (hm : ∀ j, j < r → ¬ frF ab L j) (f : Nat) : ∃ g2 A2, D_M_addTask_29 (f + 1) 20 x y (nI T) (nI q) L g = D_M_addTask_29 f 20 x y (nI T) (nI (q + 1)) (L &&& (((1 : Int32) <<< (nI r &&& 31)) ^^^ (-1))) g2 ∧ CM g2 A2 cd c tc bu B ∧ MB A A2 ∧ MC A2 T S (un W q r) K Q (q + 1) ∧ ∀ j, j < 29 ∨ 34 < j → g2 j = g j := by
  have np : ∀ i, i < q → W i ≠ r := fun i hi' e => by
    have := (BH.2.2.2.2.2 r).mpr ⟨i, hi', e⟩
    rw [hn] at this; cases this
  have mo := BH.1.mono
  have hST := BH.2.1
  obtain ⟨k1, k2, k3, k4⟩ := H
  have sc := scan_loop M.mg G M.i hc hL r r2 hf hm x y (nI T) (nI q) (D_M_addTask_29 f) (r - 1) 1 5000 (Nat.le_refl 1) (by omega) (by omega)
  have sc : D_M_addTask_37 (D_M_addTask_29 f) 5000 20 x y (nI T) (nI q) L 1 g = _ := sc
  have s1 : xaS g 33 (nI q) (nI r) = some (va_up g 33 (.inl (.int, (984, .inl (upd (A 33) q (nI r)))))) := xaS_at M.a33 (by omega) (by decide)
  have M1 := M.u33 (upd (A 33) q (nI r))
  generalize hg1 : va_up g 33 (.inl (.int, (984, .inl (upd (A 33) q (nI r))))) = g1 at s1 M1
  have e34 : ua A 33 (upd (A 33) q (nI r)) 34 = A 34 := ua_n (by decide)
  have s2 : xaS g1 34 (nI r) (nI (T + 1)) = some (va_up g1 34 (.inl (.int, (25, .inl (upd (A 34) r (nI (T + 1))))))) := by rw [← e34]; exact xaS_at M1.a34 (by omega) (by decide)
  have M2 := M1.u34 (upd (A 34) r (nI (T + 1)))
  refine ⟨_, _, ?_, M2, ⟨fun j hj => ?_, fun b hb => ?_, fun i hi => ⟨?_, ?_, ?_⟩, fun i hi => ?_⟩, ⟨⟨?_, fun t ht => ⟨?_, ?_, ?_⟩, fun i hi => ?_⟩, fun i hi => ?_, fun t i a b d => ?_, fun i a b => ?_⟩, fun j hj => ?_⟩
  · rw [show D_M_addTask_29 (f + 1) 20 x y (nI T) (nI q) L g = if L = 0 then _ else D_M_addTask_37 (D_M_addTask_29 f) 5000 20 x y (nI T) (nI q) L 1 g from rfl, if_neg h0, sc]
    simp only [M.g17, xb1_some, s1, M1.g18, nI_1, s2]
  · rw [ua_n (by omega), ua_n (by omega)]
  · rw [ua_n (by decide), ua_n (by decide)]
  · rw [ua_n (by decide), ua_n (by decide)]
  · rw [ua_n (by decide), ua_n (by decide)]
  · rw [ua_n (by decide), ua_s, upd_n (by omega)]
  · rw [ua_n (by decide), ua_n (by decide)]
  · rw [ua_n (by decide), ua_n (by decide)]; exact k1.1
  · rw [ua_n (by decide), ua_n (by decide)]; exact (k1.2.1 t ht).1
  · rw [ua_n (by decide), ua_n (by decide)]; exact (k1.2.1 t ht).2.1
  · rw [ua_n (by decide), ua_n (by decide)]; exact (k1.2.1 t ht).2.2
  · rw [ua_n (by decide), ua_s, upd_n (by omega), un_n (by omega)]; exact k1.2.2 i hi
  · rw [ua_n (by decide), ua_s]
    by_cases e : i = q
    · rw [e, upd_s, un_s]
    · rw [upd_n e, un_n e]; exact k2 i (by omega)
  · have := mo (t + 1) T (by omega) (Nat.le_refl T)
    rw [ua_s, un_n (by omega), upd_n (np i (by omega))]
    exact k3 t i a b d
  · rw [ua_s]
    by_cases e : i = q
    · rw [e, un_s, upd_s]
    · rw [un_n e, upd_n (np i (by omega))]; exact k4 i a (by omega)
  · rw [up_n (by omega), ← hg1, up_n (by omega)]
theorem model_fin (H : MC A T S W K Q q) (M : CM g A cd c tc bu B) (hST : S T ≤ q) (hT : T < 24) (f : Nat) : ∃ g2 A2, D_M_addTask_29 (f + 1) 20 x y (nI T) (nI q) 0 g = some g2 ∧ CM g2 A2 cd c tc bu B ∧ MB A A2 ∧ MC A2 (T + 1) (un S (T + 1) q) W (upd K (T + 1) x) (upd Q (T + 1) y) q ∧ ∀ j, j < 29 ∨ 34 < j → g2 j = g j := by
  obtain ⟨k1, k2, k3, k4⟩ := H
  have s1 : xaS g 30 (nI T) x = some (va_up g 30 (.inl (.int, (984, .inl (upd (A 30) T x))))) := xaS_at M.a30 (by omega) (by decide)
  have M1 := M.u30 (upd (A 30) T x)
  generalize hg1 : va_up g 30 (.inl (.int, (984, .inl (upd (A 30) T x)))) = g1 at s1 M1
  generalize hA1 : ua A 30 (upd (A 30) T x) = A1 at M1
  have n1 : ∀ j, j ≠ 30 → A1 j = A j := fun j hj => by rw [← hA1, ua_n hj]
  have s2 : xaS g1 31 (nI T) y = some (va_up g1 31 (.inl (.int, (984, .inl (upd (A 31) T y))))) := by rw [← n1 31 (by decide)]; exact xaS_at M1.a31 (by omega) (by decide)
  have M2 := M1.u31 (upd (A 31) T y)
  generalize hg2 : va_up g1 31 (.inl (.int, (984, .inl (upd (A 31) T y)))) = g2 at s2 M2
  generalize hA2 : ua A1 31 (upd (A 31) T y) = A2 at M2
  have n2 : ∀ j, j ≠ 31 → A2 j = A1 j := fun j hj => by rw [← hA2, ua_n hj]
  have s3 : xaS g2 32 (nI (T + 1)) (nI q) = some (va_up g2 32 (.inl (.int, (1025, .inl (upd (A 32) (T + 1) (nI q)))))) := by rw [← n1 32 (by decide), ← n2 32 (by decide)]; exact xaS_at M2.a32 (by omega) (by decide)
  have M3 := M2.u32 (upd (A 32) (T + 1) (nI q))
  generalize hg3 : va_up g2 32 (.inl (.int, (1025, .inl (upd (A 32) (T + 1) (nI q))))) = g3 at s3 M3
  generalize hA3 : ua A2 32 (upd (A 32) (T + 1) (nI q)) = A3 at M3
  have n3 : ∀ j, j ≠ 32 → A3 j = A2 j := fun j hj => by rw [← hA3, ua_n hj]
  have e29 : A3 29 = A 29 := by rw [n3 29 (by decide), n2 29 (by decide), n1 29 (by decide)]
  have r4 : xaI g3 29 (0 : Int32) = some (nI T) := by rw [← k1.1, ← e29]; exact xaI_at (i := 0) M3.a29 (by decide) (by decide)
  have s4 : xaS g3 29 (0 : Int32) (nI (T + 1)) = some (va_up g3 29 (.inl (.int, (41, .inl (upd (A 29) 0 (nI (T + 1))))))) := by rw [← e29]; exact xaS_at (i := 0) M3.a29 (by decide) (by decide)
  have M4 := M3.u29 (upd (A 29) 0 (nI (T + 1)))
  have b29 : ua A3 29 (upd (A 29) 0 (nI (T + 1))) 29 = upd (A 29) 0 (nI (T + 1)) := ua_s
  have b30 : ua A3 29 (upd (A 29) 0 (nI (T + 1))) 30 = upd (A 30) T x := by rw [ua_n (by decide), n3 30 (by decide), n2 30 (by decide), ← hA1, ua_s]
  have b31 : ua A3 29 (upd (A 29) 0 (nI (T + 1))) 31 = upd (A 31) T y := by rw [ua_n (by decide), n3 31 (by decide), ← hA2, ua_s]
  have b32 : ua A3 29 (upd (A 29) 0 (nI (T + 1))) 32 = upd (A 32) (T + 1) (nI q) := by rw [ua_n (by decide), ← hA3, ua_s]
  have bn : ∀ j, j ≠ 29 → j ≠ 30 → j ≠ 31 → j ≠ 32 → ua A3 29 (upd (A 29) 0 (nI (T + 1))) j = A j := fun j h1 h2 h3 h4 => by rw [ua_n h1, n3 j h4, n2 j h3, n1 j h2]
  refine ⟨_, _, ?_, M4, ⟨fun j hj => bn j (by omega) (by omega) (by omega) (by omega), fun b hb => ?_, fun i hi => ⟨?_, ?_, ?_⟩, fun i hi => ?_⟩, ⟨⟨?_, fun t ht => ⟨?_, ?_, ?_⟩, fun i hi => ?_⟩, fun i hi => ?_, fun t i a b d => ?_, fun i a b => ?_⟩, fun j hj => ?_⟩
  · simp only [D_M_addTask_29, M.g14, M1.g15, M2.g16, M3.g13, xb1_some, s1, s2, s3, nI_1, r4, s4]
    rfl
  · rw [b29, upd_n (by omega)]
  · rw [b30, upd_n (by omega)]
  · rw [b31, upd_n (by omega)]
  · rw [bn 33 (by decide) (by decide) (by decide) (by decide)]
  · rw [b32, upd_n (by omega)]
  · rw [b29, upd_s]
  · rw [b30, show 24 * 0 + t = t by omega]
    by_cases e : t = T
    · rw [e, upd_s, upd_s]
    · rw [upd_n e, upd_n (by omega), ← (k1.2.1 t (by omega)).1, show 24 * 0 + t = t by omega]
  · rw [b31, show 24 * 0 + t = t by omega]
    by_cases e : t = T
    · rw [e, upd_s, upd_s]
    · rw [upd_n e, upd_n (by omega), ← (k1.2.1 t (by omega)).2.1, show 24 * 0 + t = t by omega]
  · rw [b32, show 25 * 0 + (t + 1) = t + 1 by omega]
    by_cases e : t = T
    · rw [e, upd_s, un_s]
    · rw [upd_n (by omega), un_n (by omega), ← (k1.2.1 t (by omega)).2.2, show 25 * 0 + (t + 1) = t + 1 by omega]
  · rw [bn 33 (by decide) (by decide) (by decide) (by decide), show 24 * 0 + i = i by omega]
    rw [un_s] at hi
    exact k2 i hi
  · rw [bn 33 (by decide) (by decide) (by decide) (by decide)]; exact k2 i hi
  · rw [bn 34 (by decide) (by decide) (by decide) (by decide)]
    by_cases e : t = T
    · rw [e, un_s] at d
      rw [e, un_n (by omega)] at b
      rw [e]; exact k4 i b d
    · rw [un_n (by omega)] at b d
      exact k3 t i (by omega) b d
  · rw [un_s] at a; omega
  · rw [up_n (by omega), ← hg3, up_n (by omega), ← hg2, up_n (by omega), ← hg1, up_n (by omega)]
end Fl

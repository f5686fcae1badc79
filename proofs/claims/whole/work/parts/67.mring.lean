/-! the reference's distances and its ring: cells 20, 24, 27, 28 -/
def MG (g : XH) (c : Nat) (tb A : Nat → Int32) : Prop := (∃ cd rs bu bs, g 20 = mO cd c rs bu bs) ∧ g 24 = .inl (.int, (25, .inl tb)) ∧ g 28 = .inl (.int, (25, .inl A))
section MRs
variable {c : Nat} {tb ab : Nat → Int32}
theorem MG.cn {g : XH} {A : Nat → Int32} (H : MG g c tb A) : xgI g 4 1 20 = some (nI c) := by obtain ⟨⟨_, _, _, _, e⟩, -⟩ := H; exact xgI_at e rfl
theorem MG.b {g : XH} {A : Nat → Int32} (H : MG g c tb A) : xgR g 4 5 20 = some 24 := by obtain ⟨⟨_, _, _, _, e⟩, -⟩ := H; exact xgR_at e rfl
theorem MG.f {g : XH} {A : Nat → Int32} (H : MG g c tb A) : xgR g 4 10 20 = some 28 := by obtain ⟨⟨_, _, _, _, e⟩, -⟩ := H; exact xgR_at e rfl
theorem MG.up {g : XH} {A B : Nat → Int32} (H : MG g c tb A) : MG (va_up g 28 (.inl (.int, (25, .inl B)))) c tb B := by
  obtain ⟨⟨a1, a2, a3, a4, e⟩, e2, -⟩ := H
  exact ⟨⟨a1, a2, a3, a4, by rw [up_n (by decide)]; exact e⟩, by rw [up_n (by decide)]; exact e2, up_s⟩
/-- far holds F; what it holds is the length of a walk -/
def Fr (c : Nat) (tb : Nat → Int32) (a : Nat) (A : Nat → Int32) (F : Nat → Nat) : Prop := ∀ x, 1 ≤ x → x ≤ c → A x = nI (F x) ∧ F x ≤ 99 ∧ (F x < 99 → Wk tb (F x) x a)
theorem meas_next {a r : Nat} (G : GI c tb ab) (hc : c ≤ 24) (h1 : 1 ≤ r) (hr : r ≤ c) (x2 : Int32) (k35 : Nat → Int32 → XH → Option (XH)) (k45 : Nat → Int32 → Int32 → XH → Option (XH)) : ∀ k i f (g : XH) (A : Nat → Int32) (F : Nat → Nat), 1 ≤ i → i + k = c + 1 → k < f → MG g c tb A → Fr c tb a A F →
    ∃ g' A' F', D_M_measure_56 k35 k45 f 20 x2 (nI r) (nI i) g = k45 20 x2 (nI (r + 1)) g' ∧ MG g' c tb A' ∧ Fr c tb a A' F' ∧ (∀ x, F' x ≤ F x) ∧ (∀ x, x ≠ r → F' x = F x) ∧ (∀ y, i ≤ y → y ≤ c → bt (tb y) r = true → F' r ≤ F y + 1) ∧ ∀ j, j ≠ 28 → g' j = g j := by
  intro k
  induction k with
  | zero =>
    intro i f g A F hi1 hi hf H hF
    obtain ⟨f, rfl⟩ : ∃ g, f = g + 1 := ⟨f - 1, by omega⟩
    refine ⟨g, A, F, ?_, H, hF, fun _ => Nat.le_refl _, fun _ _ => rfl, fun y y1 y2 => absurd y2 (by omega), fun _ _ => rfl⟩
    simp only [D_M_measure_56, H.cn, xb1_some, nI_1]
    rw [if_pos (nI_lt (by omega) (by omega))]
  | succ k ih =>
    intro i f g A F hi1 hi hf H hF
    obtain ⟨f, rfl⟩ : ∃ g, f = g + 1 := ⟨f - 1, by omega⟩
    have fi := hF i hi1 (by omega)
    have fr := hF r h1 hr
    simp only [D_M_measure_56, D_M_measure_113, H.cn, H.b, H.f, xb1_some, nI_1, xaI_at H.2.1 (show i < 25 by omega) (by decide), xaI_at H.2.2 (show i < 25 by omega) (by decide), xaI_at H.2.2 (show r < 25 by omega) (by decide), fi.1, fr.1, xaS_at H.2.2 (show r < 25 by omega) (by decide)]
    rw [if_neg (nI_nlt (by omega) (by omega))]
    have skip : (bt (tb i) r = true → F r ≤ F i + 1) → ∃ g' A' F', D_M_measure_56 k35 k45 f 20 x2 (nI r) (nI (i + 1)) g = k45 20 x2 (nI (r + 1)) g' ∧ MG g' c tb A' ∧ Fr c tb a A' F' ∧ (∀ x, F' x ≤ F x) ∧ (∀ x, x ≠ r → F' x = F x) ∧ (∀ y, i ≤ y → y ≤ c → bt (tb y) r = true → F' r ≤ F y + 1) ∧ ∀ j, j ≠ 28 → g' j = g j := by
      intro hsk
      obtain ⟨g', A', F', q1, q2, q3, q4, q5, q6, q7⟩ := ih (i + 1) f g A F (by omega) (by omega) (by omega) H hF
      refine ⟨g', A', F', q1, q2, q3, q4, q5, fun y y1 y2 y3 => ?_, q7⟩
      by_cases e : y = i
      · subst e
        exact Nat.le_trans (q4 r) (hsk y3)
      · exact q6 y (by omega) y2 y3
    by_cases hb : bt (tb i) r = true
    · rw [if_pos ((b_shr_t (tb i) r (by omega)).mpr hb)]
      by_cases hq : F r ≤ F i + 1
      · rw [if_pos (nI_le (by omega) (by omega))]
        exact skip (fun _ => hq)
      · rw [if_neg (nI_ge (by omega) (by omega))]
        have hne : i ≠ r := by
          intro e
          subst e
          exact G.2.2 0 i ⟨i, hb, rfl⟩
        have hF2 : Fr c tb a (upd A r (nI (F i + 1))) (fun x => if x = r then F i + 1 else F x) := by
          intro x x1 x2
          by_cases e : x = r
          · subst e
            simp only [if_pos, upd_s]
            refine ⟨trivial, by omega, fun _ => ⟨i, hb, fi.2.2 (by omega)⟩⟩
          · simp only [if_neg e, upd_n e]
            exact hF x x1 x2
        obtain ⟨g', A', F', q1, q2, q3, q4, q5, q6, q7⟩ := ih (i + 1) f _ _ _ (by omega) (by omega) (by omega) (H.up (B := upd A r (nI (F i + 1)))) hF2
        refine ⟨g', A', F', q1, q2, q3, fun x => ?_, fun x hx => ?_, fun y y1 y2 y3 => ?_, fun j hj => by rw [q7 j hj, up_n hj]⟩
        · have := q4 x
          by_cases e : x = r
          · subst e
            simp only [if_pos] at this
            omega
          · simp only [if_neg e] at this
            exact this
        · have := q5 x hx
          simp only [if_neg hx] at this
          exact this
        · by_cases e : y = i
          · subst e
            have := q4 r
            simp only [if_pos] at this
            exact this
          · have := q6 y (by omega) y2 y3
            have hyr : y ≠ r := by
              intro e2
              subst e2
              exact G.2.2 0 y ⟨y, y3, rfl⟩
            simp only [if_neg hyr] at this
            exact this
    · rw [if_neg (fun z => hb ((b_shr_t (tb i) r (by omega)).mp z))]
      exact skip (fun z => absurd z hb)
theorem meas_r {a : Nat} (G : GI c tb ab) (hc : c ≤ 24) (x2 : Int32) (k35 : Nat → Int32 → XH → Option (XH)) : ∀ k i f (g : XH) (A : Nat → Int32) (F : Nat → Nat), 1 ≤ i → i + k = c + 1 → k < f → MG g c tb A → Fr c tb a A F →
    ∃ g' A' F', D_M_measure_45 k35 f 20 x2 (nI i) g = k35 20 (x2 + 1) g' ∧ MG g' c tb A' ∧ Fr c tb a A' F' ∧ (∀ x, F' x ≤ F x) ∧ (∀ r, i ≤ r → r ≤ c → ∀ y, bt (tb y) r = true → F' r ≤ F y + 1) ∧ ∀ j, j ≠ 28 → g' j = g j := by
  intro k
  induction k with
  | zero =>
    intro i f g A F hi1 hi hf H hF
    obtain ⟨f, rfl⟩ : ∃ g, f = g + 1 := ⟨f - 1, by omega⟩
    refine ⟨g, A, F, ?_, H, hF, fun _ => Nat.le_refl _, fun r r1 r2 => absurd r2 (by omega), fun _ _ => rfl⟩
    simp only [D_M_measure_45, H.cn, xb1_some]
    rw [if_pos (nI_lt (by omega) (by omega))]
  | succ k ih =>
    intro i f g A F hi1 hi hf H hF
    obtain ⟨f, rfl⟩ : ∃ g, f = g + 1 := ⟨f - 1, by omega⟩
    obtain ⟨g1, A1, F1, p1, p2, p3, p4, p5, p6, p7⟩ := meas_next (a := a) (r := i) G hc hi1 (by omega) x2 k35 (D_M_measure_45 k35 f) c 1 5000 g A F (Nat.le_refl 1) (by omega) (by omega) H hF
    obtain ⟨g', A', F', q1, q2, q3, q4, q5, q6⟩ := ih (i + 1) f g1 A1 F1 (by omega) (by omega) (by omega) p2 p3
    refine ⟨g', A', F', ?_, q2, q3, fun x => Nat.le_trans (q4 x) (p4 x), fun r r1 r2 y hy => ?_, fun j hj => by rw [q6 j hj, p7 j hj]⟩
    · simp only [D_M_measure_45, H.cn, xb1_some]
      rw [if_neg (nI_nlt (by omega) (by omega))]
      exact p1.trans q1
    · by_cases e : r = i
      · subst e
        have hy2 := G.1 r y hy
        exact Nat.le_trans (q4 r) (p6 y hy2.2.2.1 hy2.2.2.2 hy)
      · exact Nat.le_trans (q5 r (by omega) r2 y hy) (by have := p4 y; omega)
theorem meas_turn {a : Nat} (G : GI c tb ab) (hc : c ≤ 24) : ∀ k t f (g : XH) (A : Nat → Int32) (F : Nat → Nat), t + k = c → k < f → MG g c tb A → Fr c tb a A F → (∀ n, n ≤ t → ∀ x, 1 ≤ x → x ≤ c → Wk tb n x a → F x ≤ n) →
    ∃ g' A' F', D_M_measure_35 f 20 (nI t) g = some g' ∧ MG g' c tb A' ∧ Fr c tb a A' F' ∧ (∀ n, n ≤ c → ∀ x, 1 ≤ x → x ≤ c → Wk tb n x a → F' x ≤ n) ∧ ∀ j, j ≠ 28 → g' j = g j := by
  intro k
  induction k with
  | zero =>
    intro t f g A F ht hf H hF hC
    obtain ⟨f, rfl⟩ : ∃ g, f = g + 1 := ⟨f - 1, by omega⟩
    have e : t = c := by omega
    subst e
    refine ⟨g, A, F, ?_, H, hF, hC, fun _ _ => rfl⟩
    simp only [D_M_measure_35, H.cn, xb1_some]
    rw [if_pos (nI_le (by omega) (by omega))]
  | succ k ih =>
    intro t f g A F ht hf H hF hC
    obtain ⟨f, rfl⟩ : ∃ g, f = g + 1 := ⟨f - 1, by omega⟩
    obtain ⟨g1, A1, F1, p1, p2, p3, p4, p5, p6⟩ := meas_r (a := a) G hc (nI t) (D_M_measure_35 f) c 1 5000 g A F (Nat.le_refl 1) (by omega) (by omega) H hF
    rw [nI_1] at p1
    obtain ⟨g', A', F', q1, q2, q3, q4, q5⟩ := ih (t + 1) f g1 A1 F1 (by omega) (by omega) p2 p3 (fun n hn x x1 x2 w => by
      by_cases e : n ≤ t
      · exact Nat.le_trans (p4 x) (hC n e x x1 x2 w)
      · have e : n = t + 1 := by omega
        subst e
        obtain ⟨y, hy, wy⟩ := w
        have hy2 := G.1 x y hy
        have h1 := p5 x x1 x2 y hy
        have h2 := hC t (Nat.le_refl t) y hy2.2.2.1 hy2.2.2.2 wy
        omega)
    refine ⟨g', A', F', ?_, q2, q3, q4, fun j hj => by rw [q5 j hj, p6 j hj]⟩
    simp only [D_M_measure_35, H.cn, xb1_some]
    rw [if_neg (nI_ge (by omega) (by omega))]
    exact p1.trans q1
theorem meas_init {a : Nat} (hc : c ≤ 24) (ha : a ≤ 24) : ∀ k i f (g : XH) (A : Nat → Int32), 1 ≤ i → i + k = c + 1 → k < f → MG g c tb A → (∀ x, 1 ≤ x → x < i → A x = nI (if x = a then 0 else 99)) →
    ∃ g' A', D_M_measure_2 f 20 (nI a) (nI i) g = D_M_measure_35 5000 20 (nI 0) g' ∧ MG g' c tb A' ∧ (∀ x, 1 ≤ x → x ≤ c → A' x = nI (if x = a then 0 else 99)) ∧ ∀ j, j ≠ 28 → g' j = g j := by
  intro k
  induction k with
  | zero =>
    intro i f g A hi1 hi hf H hA
    obtain ⟨f, rfl⟩ : ∃ g, f = g + 1 := ⟨f - 1, by omega⟩
    refine ⟨g, A, ?_, H, fun x x1 x2 => hA x x1 (by omega), fun _ _ => rfl⟩
    simp only [D_M_measure_2, H.cn, xb1_some]
    rw [if_pos (nI_lt (by omega) (by omega))]
    rfl
  | succ k ih =>
    intro i f g A hi1 hi hf H hA
    obtain ⟨f, rfl⟩ : ∃ g, f = g + 1 := ⟨f - 1, by omega⟩
    have step := fun v => ih (i + 1) f _ _ (by omega) (by omega) (by omega) (H.up (B := upd A i v))
    simp only [D_M_measure_2, D_M_measure_26, H.cn, H.f, xb1_some, xaS_at H.2.2 (show i < 25 by omega) (by decide), nI_1]
    rw [if_neg (nI_nlt (by omega) (by omega))]
    by_cases e : i = a
    · rw [if_pos (show nI i = nI a by rw [e])]
      obtain ⟨g', A', q1, q2, q3, q4⟩ := step (nI 0) (fun x x1 x2 => by
        by_cases z : x = i
        · subst z; rw [upd_s, if_pos e]
        · rw [upd_n z]; exact hA x x1 (by omega))
      exact ⟨g', A', q1, q2, q3, fun j hj => by rw [q4 j hj, up_n hj]⟩
    · rw [if_neg (fun z => e ((nI_eq (by omega) (by omega)).mp z))]
      obtain ⟨g', A', q1, q2, q3, q4⟩ := step (nI 99) (fun x x1 x2 => by
        by_cases z : x = i
        · subst z; rw [upd_s, if_neg e]
        · rw [upd_n z]; exact hA x x1 (by omega))
      exact ⟨g', A', q1, q2, q3, fun j hj => by rw [q4 j hj, up_n hj]⟩
/-- behind measure(a): far is the length of a shortest walk to a, or 99 -/
theorem measure_eq {a : Nat} (G : GI c tb ab) (hc : c ≤ 24) (ha : a ≤ 24) {g : XH} {A : Nat → Int32} (H : MG g c tb A) :
    ∃ g' A' F', X_M_measure 20 (nI a) g = some g' ∧ MG g' c tb A' ∧ Fr c tb a A' F' ∧ (∀ n x, 1 ≤ x → x ≤ c → 1 ≤ a → a ≤ c → Wk tb n x a → F' x ≤ n) ∧ ∀ j, j ≠ 28 → g' j = g j := by
  obtain ⟨g1, A1, p1, p2, p3, p4⟩ := meas_init (tb := tb) hc ha c 1 5000 g A (Nat.le_refl 1) (by omega) (by omega) H (fun x x1 x2 => absurd x2 (by omega))
  obtain ⟨g', A', F', q1, q2, q3, q4, q5⟩ := meas_turn (a := a) G hc c 0 5000 g1 A1 (fun x => if x = a then 0 else 99) (by omega) (by omega) p2 (fun x x1 x2 => ⟨p3 x x1 x2, by dsimp only; split <;> omega, fun z => by
    by_cases e : x = a
    · simp only [if_pos e]; exact e
    · simp only [if_neg e] at z; omega⟩) (fun n hn x x1 x2 w => by
    have e : n = 0 := by omega
    subst e
    have w : x = a := w
    simp only [if_pos w]; exact Nat.le_refl 0)
  refine ⟨g', A', F', ?_, q2, q3, fun n x x1 x2 a1 a2 w => q4 n (by have := w.short G hc ⟨a1, a2⟩; omega) x x1 x2 w, fun j hj => by rw [q5 j hj, p4 j hj]⟩
  unfold X_M_measure D_M_measure_0
  exact p1.trans q1
end MRs

/-! the ring that the reference tells; what is behind a runnable -/
section MTs
variable {c : Nat} {tb ab : Nat → Int32}
theorem PathTo.pre {a b d : Nat} {p : Nat → Nat} (h : PathTo tb a b d p) : ∀ i, i ≤ d → Wk tb i b (p i) := by
  intro i
  induction i with
  | zero => intro _; exact h.1.symm
  | succ i ih =>
    intro hi
    exact (ih (by omega)).app (Wk.one (h.2 i (by omega)).1)
/-- far along the way -/
theorem far_path {a b d : Nat} {p : Nat → Nat} {A : Nat → Int32} {F : Nat → Nat} (G : GI c tb ab) (hc : c ≤ 24) (hb : 1 ≤ b ∧ b ≤ c) (ha : 1 ≤ a ∧ a ≤ c) (hw : Wk tb d b a) (hl : ∀ m, Wk tb m b a → d ≤ m) (hp : PathTo tb a b d p) (hF : Fr c tb a A F) (hC : ∀ n x, 1 ≤ x → x ≤ c → Wk tb n x a → F x ≤ n) : ∀ i, i ≤ d → F (p i) = d - i := by
  intro i hi
  have r1 := hp.rng G hb i hi
  have h1 := hC _ _ r1.1 r1.2 (hp.wk hw i hi)
  have hd := hw.short G hc ha
  have h2 := (hF (p i) r1.1 r1.2).2.2 (by omega)
  have h3 := hl _ ((hp.pre i hi).app h2)
  omega
theorem mtell_in {a b d i : Nat} {p : Nat → Nat} {A : Nat → Int32} {F : Nat → Nat} {cd bu bs : Int32} {R : Nat → Int32} {g : XH} (G : GI c tb ab) (hc : c ≤ 24) (hb : 1 ≤ b ∧ b ≤ c) (ha : 1 ≤ a ∧ a ≤ c) (hw : Wk tb d b a) (hl : ∀ m, Wk tb m b a → d ≤ m) (hp : PathTo tb a b d p) (hF : Fr c tb a A F) (hC : ∀ n x, 1 ≤ x → x ≤ c → Wk tb n x a → F x ≤ n) (hi : i < d)
    (e0 : g 20 = mO cd c (nI (i + 1)) bu bs) (e1 : g 24 = .inl (.int, (25, .inl tb))) (e2 : g 28 = .inl (.int, (25, .inl A))) (e3 : g 27 = .inl (.int, (25, .inl R))) (k19 : Nat → Int32 → XH → Option (XH)) : ∀ k j f, 1 ≤ j → j + k = p (i + 1) → k < f →
    D_M_tellRing_30 k19 f 20 (nI (p i)) (nI j) g = k19 20 (nI (p (i + 1))) (va_up (va_up g 27 (.inl (.int, (25, .inl (upd R (i + 1) (nI (p (i + 1)))))))) 20 (mO cd c (nI (i + 2)) bu bs)) := by
  have g1 : xgR g 4 5 20 = some 24 := xgR_at e0 rfl
  have g2 : xgR g 4 10 20 = some 28 := xgR_at e0 rfl
  have g3 : xgR g 4 9 20 = some 27 := xgR_at e0 rfl
  have g4 : xgI g 4 8 20 = some (nI (i + 1)) := xgI_at e0 rfl
  have ri := hp.rng G hb i (by omega)
  have rs := hp.rng G hb (i + 1) (by omega)
  have hd := hw.short G hc ha
  have fi := far_path G hc hb ha hw hl hp hF hC i (by omega)
  have fs := far_path G hc hb ha hw hl hp hF hC (i + 1) (by omega)
  have Ai := (hF (p i) ri.1 ri.2).1
  have dm : nI (d - i) - 1 = nI (d - (i + 1)) := by
    rw [show d - i = (d - (i + 1)) + 1 by omega]; exact nI_pred _
  obtain ⟨p1, p2, p3⟩ := hp.2 i hi
  intro k
  induction k with
  | zero =>
    intro j f j1 hj hf
    obtain ⟨f, rfl⟩ : ∃ g, f = g + 1 := ⟨f - 1, by omega⟩
    have e : j = p (i + 1) := by omega
    subst e
    have As := (hF (p (i + 1)) rs.1 rs.2).1
    have e5 : (va_up g 27 (.inl (.int, (25, .inl (upd R (i + 1) (nI (p (i + 1)))))))) 20 = mO cd c (nI (i + 1)) bu bs := by rw [up_n (by decide)]; exact e0
    have g5 : xgI (va_up g 27 (.inl (.int, (25, .inl (upd R (i + 1) (nI (p (i + 1)))))))) 4 8 20 = some (nI (i + 1)) := xgI_at e5 rfl
    have g6 : xp (va_up g 27 (.inl (.int, (25, .inl (upd R (i + 1) (nI (p (i + 1)))))))) 4 8 20 (.int (nI (i + 2))) = some (va_up (va_up g 27 (.inl (.int, (25, .inl (upd R (i + 1) (nI (p (i + 1)))))))) 20 (mO cd c (nI (i + 2)) bu bs)) := xp_at e5 (show 8 < 19 by decide)
    simp only [D_M_tellRing_30, g1, g2, g3, g4, xb1_some, xaI_at e1 (show p (i + 1) < 25 by omega) (by decide), xaI_at e2 (show p (i + 1) < 25 by omega) (by decide), xaI_at e2 (show p i < 25 by omega) (by decide), xaS_at e3 (show i + 1 < 25 by omega) (by decide), Ai, As, fi, fs, dm, g5, nI_1, g6]
    rw [if_neg (fun z => by rw [b_shr_f _ _ (by omega), p1] at z; cases z), if_pos trivial]
  | succ k ih =>
    intro j f j1 hj hf
    obtain ⟨f, rfl⟩ : ∃ g, f = g + 1 := ⟨f - 1, by omega⟩
    have hs := ih (j + 1) f (by omega) (by omega) (by omega)
    have Aj := hF j j1 (by omega)
    simp only [D_M_tellRing_30, D_M_tellRing_60, g1, g2, xb1_some, xaI_at e1 (show j < 25 by omega) (by decide), xaI_at e2 (show j < 25 by omega) (by decide), xaI_at e2 (show p i < 25 by omega) (by decide), Ai, Aj.1, fi, dm, nI_1]
    by_cases q : bt (tb j) (p i) = true
    · rw [if_neg (fun z => by rw [b_shr_f _ _ (by omega), q] at z; cases z)]
      rw [if_neg (fun z => by
        have z := (nI_eq (by omega) (by omega)).mp z
        have w := Aj.2.2 (by omega)
        rw [z] at w
        exact p3 j (by omega) ⟨q, by rw [show d - i - 1 = d - (i + 1) by omega]; exact w⟩)]
      exact hs
    · rw [if_pos ((b_shr_f _ _ (by omega)).mpr (by simpa using q))]
      exact hs
theorem mtell_loop {a b d : Nat} {p : Nat → Nat} {A : Nat → Int32} {F : Nat → Nat} {cd bu bs : Int32} (G : GI c tb ab) (hc : c ≤ 24) (hb : 1 ≤ b ∧ b ≤ c) (ha : 1 ≤ a ∧ a ≤ c) (hw : Wk tb d b a) (hl : ∀ m, Wk tb m b a → d ≤ m) (hp : PathTo tb a b d p) (hF : Fr c tb a A F) (hC : ∀ n x, 1 ≤ x → x ≤ c → Wk tb n x a → F x ≤ n) : ∀ k i f (g : XH) (R : Nat → Int32), i + k = d → k < f → g 20 = mO cd c (nI (i + 1)) bu bs → g 24 = .inl (.int, (25, .inl tb)) → g 28 = .inl (.int, (25, .inl A)) → g 27 = .inl (.int, (25, .inl R)) → (∀ j, j ≤ i → R j = nI (p j)) →
    ∃ g' R', D_M_tellRing_19 f 20 (nI (p i)) g = some g' ∧ g' 20 = mO cd c (nI (d + 1)) bu bs ∧ g' 27 = .inl (.int, (25, .inl R')) ∧ (∀ j, j ≤ d → R' j = nI (p j)) ∧ ∀ j, j ≠ 20 → j ≠ 27 → g' j = g j := by
  intro k
  induction k with
  | zero =>
    intro i f g R hi hf e0 e1 e2 e3 hR
    obtain ⟨f, rfl⟩ : ∃ g, f = g + 1 := ⟨f - 1, by omega⟩
    have e : i = d := by omega
    subst e
    have ri := hp.rng G hb i (by omega)
    have fi := far_path G hc hb ha hw hl hp hF hC i (by omega)
    have g2 : xgR g 4 10 20 = some 28 := xgR_at e0 rfl
    refine ⟨g, R, ?_, e0, e3, hR, fun _ _ _ => rfl⟩
    simp only [D_M_tellRing_19, g2, xb1_some, xaI_at e2 (show p i < 25 by omega) (by decide), (hF (p i) ri.1 ri.2).1, fi, Nat.sub_self]
    rw [if_pos (by decide)]
  | succ k ih =>
    intro i f g R hi hf e0 e1 e2 e3 hR
    obtain ⟨f, rfl⟩ : ∃ g, f = g + 1 := ⟨f - 1, by omega⟩
    have ri := hp.rng G hb i (by omega)
    have rs := hp.rng G hb (i + 1) (by omega)
    have hd := hw.short G hc ha
    have fi := far_path G hc hb ha hw hl hp hF hC i (by omega)
    have g2 : xgR g 4 10 20 = some 28 := xgR_at e0 rfl
    have hin := mtell_in (k19 := D_M_tellRing_19 f) G hc hb ha hw hl hp hF hC (show i < d by omega) e0 e1 e2 e3 (p (i + 1) - 1) 1 5000 (Nat.le_refl 1) (by omega) (by omega)
    obtain ⟨g', R', q1, q2, q3, q4, q5⟩ := ih (i + 1) f (va_up (va_up g 27 (.inl (.int, (25, .inl (upd R (i + 1) (nI (p (i + 1)))))))) 20 (mO cd c (nI (i + 2)) bu bs)) (upd R (i + 1) (nI (p (i + 1)))) (by omega) (by omega) up_s (by rw [up_n (by decide), up_n (by decide)]; exact e1) (by rw [up_n (by decide), up_n (by decide)]; exact e2) (by rw [up_n (by decide), up_s]) (fun j hj => by
      by_cases e : j = i + 1
      · subst e; rw [upd_s]
      · rw [upd_n e]; exact hR j (by omega))
    refine ⟨g', R', ?_, q2, q3, q4, fun j h1 h2 => by rw [q5 j h1 h2, up_n h1, up_n h2]⟩
    simp only [D_M_tellRing_19, g2, xb1_some, xaI_at e2 (show p i < 25 by omega) (by decide), (hF (p i) ri.1 ri.2).1, fi]
    rw [if_neg (show ¬ nI (d - i) ≤ 0 from nI_nle (by omega) (by omega))]
    exact hin.trans q1
theorem mtell_eq {a b d : Nat} {p : Nat → Nat} {A : Nat → Int32} {F : Nat → Nat} {cd rs bu bs : Int32} {R : Nat → Int32} {g : XH} (G : GI c tb ab) (hc : c ≤ 24) (hb : 1 ≤ b ∧ b ≤ c) (ha : 1 ≤ a ∧ a ≤ c) (hw : Wk tb d b a) (hl : ∀ m, Wk tb m b a → d ≤ m) (hp : PathTo tb a b d p) (hF : Fr c tb a A F) (hC : ∀ n x, 1 ≤ x → x ≤ c → Wk tb n x a → F x ≤ n)
    (e0 : g 20 = mO cd c rs bu bs) (e1 : g 24 = .inl (.int, (25, .inl tb))) (e2 : g 28 = .inl (.int, (25, .inl A))) (e3 : g 27 = .inl (.int, (25, .inl R))) :
    ∃ g' R', X_M_tellRing 20 (nI b) g = some g' ∧ g' 20 = mO cd c (nI (d + 1)) bu bs ∧ g' 27 = .inl (.int, (25, .inl R')) ∧ (∀ j, j ≤ d → R' j = nI (p j)) ∧ ∀ j, j ≠ 20 → j ≠ 27 → g' j = g j := by
  unfold X_M_tellRing D_M_tellRing_0
  have s1 : xp g 4 8 20 (.int (0 : Int32)) = some (va_up g 20 (mO cd c 0 bu bs)) := xp_at e0 (show 8 < 19 by decide)
  rw [s1, xb1_some]
  have f0 : (va_up g 20 (mO cd c 0 bu bs)) 20 = mO cd c 0 bu bs := up_s
  have f3 : (va_up g 20 (mO cd c 0 bu bs)) 27 = .inl (.int, (25, .inl R)) := by rw [up_n (by decide)]; exact e3
  have s2 : xgR (va_up g 20 (mO cd c 0 bu bs)) 4 9 20 = some 27 := xgR_at f0 rfl
  have s3 : xaS (va_up g 20 (mO cd c 0 bu bs)) 27 (0 : Int32) (nI b) = some (va_up (va_up g 20 (mO cd c 0 bu bs)) 27 (.inl (.int, (25, .inl (upd R 0 (nI b)))))) := xaS_at (i := 0) f3 (by decide) (by decide)
  rw [s2, xb1_some, s3, xb1_some]
  have f4 : (va_up (va_up g 20 (mO cd c 0 bu bs)) 27 (.inl (.int, (25, .inl (upd R 0 (nI b)))))) 20 = mO cd c 0 bu bs := by rw [up_n (by decide)]; exact f0
  have s4 : xp (va_up (va_up g 20 (mO cd c 0 bu bs)) 27 (.inl (.int, (25, .inl (upd R 0 (nI b)))))) 4 8 20 (.int (1 : Int32)) = some (va_up (va_up (va_up g 20 (mO cd c 0 bu bs)) 27 (.inl (.int, (25, .inl (upd R 0 (nI b)))))) 20 (mO cd c (nI (0 + 1)) bu bs)) := xp_at f4 (show 8 < 19 by decide)
  rw [s4, xb1_some]
  obtain ⟨g', R', q1, q2, q3, q4, q5⟩ := mtell_loop (cd := cd) (bu := bu) (bs := bs) G hc hb ha hw hl hp hF hC d 0 5000 (va_up (va_up (va_up g 20 (mO cd c 0 bu bs)) 27 (.inl (.int, (25, .inl (upd R 0 (nI b)))))) 20 (mO cd c (nI (0 + 1)) bu bs)) (upd R 0 (nI b)) (by omega) (by have := hw.short G hc ha; omega) up_s (by rw [up_n (by decide), up_n (by decide), up_n (by decide)]; exact e1) (by rw [up_n (by decide), up_n (by decide), up_n (by decide)]; exact e2) (by rw [up_n (by decide), up_s]) (fun j hj => by
    have e : j = 0 := by omega
    subst e
    rw [upd_s, hp.1])
  rw [hp.1] at q1
  exact ⟨g', R', q1, q2, q3, q4, fun j h1 h2 => by rw [q5 j h1 h2, up_n h1, up_n h2, up_n h1]⟩
/-- one turn of behind(): what is before one of the set comes in -/
theorem behind_in {g : XH} {A : Nat → Int32} (H : MG g c tb A) (hc : c ≤ 24) (t : Int32) (k9 : Nat → Int32 → Int32 → XH → Option (Int32)) : ∀ k i f (S : Int32), 1 ≤ i → i + k = c + 1 → k < f →
    ∃ S', D_M_behind_20 k9 f 20 S t (nI i) g = k9 20 S' (t + 1) g ∧ (∀ x, bt S x = true → bt S' x = true) ∧ (∀ x, bt S' x = true → bt S x = true ∨ ∃ y, bt S' y = true ∧ bt (tb y) x = true) ∧ (∀ y, i ≤ y → y ≤ c → bt S y = true → ∀ x, bt (tb y) x = true → bt S' x = true) ∧ ∀ P : Nat → Prop, (∀ x, bt S x = true → P x) → (∀ x y, P y → bt (tb y) x = true → P x) → ∀ x, bt S' x = true → P x := by
  intro k
  induction k with
  | zero =>
    intro i f S i1 hi hf
    obtain ⟨f, rfl⟩ : ∃ g, f = g + 1 := ⟨f - 1, by omega⟩
    refine ⟨S, ?_, fun _ q => q, fun _ q => Or.inl q, fun y y1 y2 => absurd y2 (by omega), fun P q _ => q⟩
    simp only [D_M_behind_20, H.cn, xb1_some]
    rw [if_pos (nI_lt (by omega) (by omega))]
  | succ k ih =>
    intro i f S i1 hi hf
    obtain ⟨f, rfl⟩ : ∃ g, f = g + 1 := ⟨f - 1, by omega⟩
    have z0 : S ||| 0 = S := b_ext fun i _ => by rw [b_or, b_0, Bool.or_false]
    simp only [D_M_behind_20, D_M_behind_51, H.cn, H.b, xb1_some, xaI_at H.2.1 (show i < 25 by omega) (by decide), nI_1, z0]
    rw [if_neg (nI_nlt (by omega) (by omega))]
    by_cases q : bt S i = true
    · rw [if_pos ((b_shr_t S i (by omega)).mpr q)]
      obtain ⟨S', q1, q2, q3, q4, q5⟩ := ih (i + 1) f (S ||| tb i) (by omega) (by omega) (by omega)
      have qs : ∀ x, bt S x = true → bt (S ||| tb i) x = true := fun x hx => by rw [b_or, hx]; rfl
      refine ⟨S', q1, fun x hx => q2 x (qs x hx), fun x hx => ?_, fun y y1 y2 hy x hx => ?_, fun P p1 p2 => q5 P (fun x hx => ?_) p2⟩
      · rcases q3 x hx with z | z
        · rw [b_or, Bool.or_eq_true] at z
          rcases z with z | z
          · exact Or.inl z
          · exact Or.inr ⟨i, q2 i (qs i q), z⟩
        · exact Or.inr z
      · by_cases e : y = i
        · subst e
          exact q2 x (by rw [b_or, hx, Bool.or_true])
        · exact q4 y (by omega) y2 (qs y hy) x hx
      · rw [b_or, Bool.or_eq_true] at hx
        rcases hx with z | z
        · exact p1 x z
        · exact p2 x i (p1 i q) z
    · rw [if_neg (fun z => q ((b_shr_t S i (by omega)).mp z))]
      obtain ⟨S', q1, q2, q3, q4, q5⟩ := ih (i + 1) f S (by omega) (by omega) (by omega)
      refine ⟨S', q1, q2, q3, fun y y1 y2 hy x hx => ?_, q5⟩
      by_cases e : y = i
      · subst e; exact absurd hy q
      · exact q4 y (by omega) y2 hy x hx
theorem behind_turn {g : XH} {A : Nat → Int32} (H : MG g c tb A) (G : GI c tb ab) (hc : c ≤ 24) (r : Nat) (hr : r ≤ 24) : ∀ k t f (S : Int32), t + k = c → k < f → (∀ x, bt S x = true → bt (ab r) x = true) → (∀ n, n ≤ t → ∀ x, Wk tb (n + 1) x r → bt S x = true) →
    ∃ S', D_M_behind_9 f 20 S (nI t) g = some S' ∧ (∀ x, bt S' x = true → bt (ab r) x = true) ∧ ∀ n, n ≤ c → ∀ x, Wk tb (n + 1) x r → bt S' x = true := by
  intro k
  induction k with
  | zero =>
    intro t f S ht hf h1 h2
    obtain ⟨f, rfl⟩ : ∃ g, f = g + 1 := ⟨f - 1, by omega⟩
    have e : t = c := by omega
    subst e
    refine ⟨S, ?_, h1, h2⟩
    simp only [D_M_behind_9, H.cn, xb1_some]
    rw [if_pos (nI_le (by omega) (by omega))]
  | succ k ih =>
    intro t f S ht hf h1 h2
    obtain ⟨f, rfl⟩ : ∃ g, f = g + 1 := ⟨f - 1, by omega⟩
    obtain ⟨S1, p1, p2, -, p4, p5⟩ := behind_in H hc (nI t) (D_M_behind_9 f) c 1 5000 S (Nat.le_refl 1) (by omega) (by omega)
    rw [nI_1] at p1
    obtain ⟨S', q1, q2, q3⟩ := ih (t + 1) f S1 (by omega) (by omega) (p5 _ h1 (fun x y hy hx => by
      obtain ⟨m, wm⟩ := (G.2.1 y r hr).mp hy
      exact (G.2.1 x r hr).mpr ⟨m + 1, y, hx, wm⟩)) (fun n hn x w => by
      by_cases e : n ≤ t
      · exact p2 x (h2 n e x w)
      · have e : n = t + 1 := by omega
        subst e
        obtain ⟨y, hy, wy⟩ := w
        have hy2 := G.1 x y hy
        exact p4 y hy2.2.2.1 hy2.2.2.2 (h2 t (Nat.le_refl t) y wy) x hy)
    refine ⟨S', ?_, q2, q3⟩
    simp only [D_M_behind_9, H.cn, xb1_some]
    rw [if_neg (nI_ge (by omega) (by omega))]
    exact p1.trans q1
theorem behind_eq {g : XH} {A : Nat → Int32} (H : MG g c tb A) (G : GI c tb ab) (hc : c ≤ 24) (r : Nat) (h1 : 1 ≤ r) (hr : r ≤ c) : X_M_behind 20 (nI r) g = some (ab r) := by
  unfold X_M_behind D_M_behind_0
  rw [H.b, xb1_some, xaI_at H.2.1 (show r < 25 by omega) (by decide), xb1_some]
  obtain ⟨S', q1, q2, q3⟩ := behind_turn H G hc r (by omega) c 0 5000 (tb r) (by omega) (by omega) (fun x hx => (G.2.1 x r (by omega)).mpr ⟨0, Wk.one hx⟩) (fun n hn x w => by
    have e : n = 0 := by omega
    subst e
    obtain ⟨y, hy, wy⟩ := w
    have wy : y = r := wy
    subst wy
    exact hy)
  have e : S' = ab r := b_ext fun x _ => by
    cases hx : bt S' x
    · cases ha : bt (ab r) x
      · rfl
      · obtain ⟨n, w⟩ := (G.2.1 x r (by omega)).mp ha
        have := w.short G hc ⟨h1, hr⟩
        have := q3 n (by omega) x w
        rw [hx] at this; cases this
    · exact (q2 x hx).symm
  rw [← e]
  exact q1
end MTs

/-! the class's graph: cells 8 to 12 -/
def CG (h : XH) (tb ab ly tl : Nat → Int32) (tc : Int32) : Prop := h 8 = .inr (2, [.ref 9, .ref 10, .ref 11, .ref 12, .int tc]) ∧ h 9 = .inl (.int, (25, .inl tb)) ∧ h 10 = .inl (.int, (25, .inl ab)) ∧ h 11 = .inl (.int, (24, .inl ly)) ∧ h 12 = .inl (.int, (24, .inl tl))
section CGs
variable {h : XH} {tb ab ly tl : Nat → Int32} {tc : Int32}
theorem CG.t (H : CG h tb ab ly tl tc) : xgR h 2 0 8 = some 9 := xgR_at H.1 rfl
theorem CG.a (H : CG h tb ab ly tl tc) : xgR h 2 1 8 = some 10 := xgR_at H.1 rfl
theorem CG.l (H : CG h tb ab ly tl tc) : xgR h 2 2 8 = some 11 := xgR_at H.1 rfl
theorem CG.o (H : CG h tb ab ly tl tc) : xgR h 2 3 8 = some 12 := xgR_at H.1 rfl
theorem CG.n (H : CG h tb ab ly tl tc) : xgI h 2 4 8 = some tc := xgI_at H.1 rfl
theorem CG.i (H : CG h tb ab ly tl tc) : xis h 2 8 = true := xis_at H.1
theorem upd_s {f : Nat → Int32} {k : Nat} {x : Int32} : upd f k x k = x := pk_us
theorem upd_n {f : Nat → Int32} {k j : Nat} {x : Int32} (hj : j ≠ k) : upd f k x j = f j := pk_un hj
theorem would_eq (H : CG h tb ab ly tl tc) {a b : Nat} (ha : a ≤ 24) (hb : b ≤ 24) : X_G_wouldCloseRing 8 (nI a) (nI b) h = some (if a = b ∨ bt (ab a) b = true then 1 else 0) := by
  unfold X_G_wouldCloseRing D_G_wouldCloseRing_0 D_G_wouldCloseRing_18 D_G_wouldCloseRing_23
  by_cases e : a = b
  · subst e
    rw [if_pos rfl, if_pos (Or.inl rfl)]; rfl
  · rw [if_neg (fun q => e ((nI_eq (by omega) (by omega)).mp q)), H.a, xb1_some, xaI_at H.2.2.1 (show a < 25 by omega) (by decide), xb1_some, isIn_eq _ b (by omega), xb1_some]
    by_cases q : bt (ab a) b = true
    · rw [if_pos q, if_neg (by decide), if_pos (Or.inr q)]; rfl
    · rw [if_neg q, if_pos rfl, if_neg (fun z => z.elim e q)]; rfl
/-- the closure's row while a new need is put in -/
def abF (ab : Nat → Int32) (b : Nat) (mo : Int32) (i : Nat) : Nat → Int32 := fun r => if 1 ≤ r ∧ r < i ∧ (r = b ∨ bt (ab r) b = true) then ab r ||| mo else ab r
theorem abF_up {ab : Nat → Int32} {b i : Nat} {mo : Int32} (h1 : 1 ≤ i) (hq : i = b ∨ bt (ab i) b = true) : upd (abF ab b mo i) i (abF ab b mo i i ||| mo) = abF ab b mo (i + 1) := by
  funext r
  by_cases e : r = i
  · subst e
    rw [upd_s]
    unfold abF
    rw [if_neg (fun z => by omega), if_pos ⟨h1, by omega, hq⟩]
  · rw [upd_n e]
    unfold abF
    by_cases z : 1 ≤ r ∧ r < i ∧ (r = b ∨ bt (ab r) b = true)
    · rw [if_pos z, if_pos ⟨z.1, by omega, z.2.2⟩]
    · rw [if_neg z, if_neg (fun w => z ⟨w.1, by omega, w.2.2⟩)]
theorem abF_no {ab : Nat → Int32} {b i : Nat} {mo : Int32} (hq : ¬ (i = b ∨ bt (ab i) b = true)) : abF ab b mo i = abF ab b mo (i + 1) := by
  funext r
  unfold abF
  by_cases z : 1 ≤ r ∧ r < i ∧ (r = b ∨ bt (ab r) b = true)
  · rw [if_pos z, if_pos ⟨z.1, by omega, z.2.2⟩]
  · rw [if_neg z, if_neg (fun w => z ⟨w.1, by
      rcases Nat.lt_or_ge r i with q | q
      · exact q
      · have e : r = i := by omega
        subst e
        exact absurd w.2.2 hq, w.2.2⟩)]
theorem add_loop {b : Nat} (hb : b ≤ 24) (mo : Int32) : ∀ k i f (g : XH), 1 ≤ i → i + k = 25 → k < f → CG g tb (abF ab b mo i) ly tl tc → ∃ g', D_G_add_26 f 8 (nI b) mo (nI i) g = some g' ∧ CG g' tb (abF ab b mo 25) ly tl tc ∧ ∀ j, j ≠ 10 → g' j = g j := by
  intro k
  induction k with
  | zero =>
    intro i f g h1 hi hf H
    obtain ⟨f, rfl⟩ : ∃ g, f = g + 1 := ⟨f - 1, by omega⟩
    have e : i = 25 := by omega
    subst e
    refine ⟨g, ?_, H, fun _ _ => rfl⟩
    simp only [D_G_add_26]
    rw [if_pos (show (24 : Int32) < nI 25 by decide)]
  | succ k ih =>
    intro i f g h1 hi hf H
    obtain ⟨f, rfl⟩ : ∃ g, f = g + 1 := ⟨f - 1, by omega⟩
    have hi0 : abF ab b mo i i = ab i := if_neg (fun z => by omega)
    simp only [D_G_add_26, D_G_add_53, D_G_add_64, H.a, xb1_some, xaI_at H.2.2.1 (show i < 25 by omega) (by decide), isIn_eq _ b (show b < 32 by omega), w01i, xaS_at H.2.2.1 (show i < 25 by omega) (by decide), nI_1]
    rw [if_neg (show ¬ (24 : Int32) < nI i from nI_nlt (a := 24) (by omega) (by omega))]
    have stepY : (i = b ∨ bt (ab i) b = true) → ∃ g', D_G_add_26 f 8 (nI b) mo (nI (i + 1)) (va_up g 10 (.inl (.int, (25, .inl (upd (abF ab b mo i) i (abF ab b mo i i ||| mo)))))) = some g' ∧ CG g' tb (abF ab b mo 25) ly tl tc ∧ ∀ j, j ≠ 10 → g' j = g j := by
      intro hq
      obtain ⟨g', e1, e2, e3⟩ := ih (i + 1) f (va_up g 10 (.inl (.int, (25, .inl (upd (abF ab b mo i) i (abF ab b mo i i ||| mo)))))) (by omega) (by omega) (by omega) ⟨by rw [up_n (by decide)]; exact H.1, by rw [up_n (by decide)]; exact H.2.1, by rw [up_s, abF_up h1 hq], by rw [up_n (by decide)]; exact H.2.2.2.1, by rw [up_n (by decide)]; exact H.2.2.2.2⟩
      exact ⟨g', e1, e2, fun j hj => by rw [e3 j hj, up_n hj]⟩
    by_cases q1 : i = b
    · rw [if_pos (show nI i = nI b by rw [q1])]
      exact stepY (Or.inl q1)
    · rw [if_neg (fun z => q1 ((nI_eq (by omega) (by omega)).mp z))]
      by_cases q2 : bt (ab i) b = true
      · rw [hi0, if_neg (fun z => z q2)]
        have := stepY (Or.inr q2)
        rw [hi0] at this
        exact this
      · rw [hi0, if_pos q2]
        have hq : ¬ (i = b ∨ bt (ab i) b = true) := fun z => z.elim q1 q2
        exact ih (i + 1) f g (by omega) (by omega) (by omega) (by rw [← abF_no hq]; exact H)
theorem add_eq (H : CG h tb ab ly tl tc) {a b : Nat} (ha : a ≤ 24) (hb : b ≤ 24) : ∃ h', X_G_add 8 (nI a) (nI b) h = some h' ∧ CG h' (upd tb b (tb b ||| ((1 : Int32) <<< (nI a &&& 31)))) (abF ab b (ab a ||| ((1 : Int32) <<< (nI a &&& 31))) 25) ly tl tc ∧ ∀ j, j ≠ 9 → j ≠ 10 → h' j = h j := by
  unfold X_G_add D_G_add_0
  have H2 : CG (va_up h 9 (.inl (.int, (25, .inl (upd tb b (tb b ||| ((1 : Int32) <<< (nI a &&& 31)))))))) (upd tb b (tb b ||| ((1 : Int32) <<< (nI a &&& 31)))) ab ly tl tc := ⟨by rw [up_n (by decide)]; exact H.1, by rw [up_s], by rw [up_n (by decide)]; exact H.2.2.1, by rw [up_n (by decide)]; exact H.2.2.2.1, by rw [up_n (by decide)]; exact H.2.2.2.2⟩
  rw [H.t, xb1_some, xaI_at H.2.1 (show b < 25 by omega) (by decide), xb1_some, xaS_at H.2.1 (show b < 25 by omega) (by decide), xb1_some, H2.a, xb1_some, xaI_at H2.2.2.1 (show a < 25 by omega) (by decide), xb1_some]
  have e0 : ab = abF ab b (ab a ||| ((1 : Int32) <<< (nI a &&& 31))) 1 := by
    funext r
    exact (if_neg (fun z => by omega)).symm
  obtain ⟨g', e1, e2, e3⟩ := add_loop (ab := ab) (tb := upd tb b (tb b ||| ((1 : Int32) <<< (nI a &&& 31)))) (ly := ly) (tl := tl) (tc := tc) hb (ab a ||| ((1 : Int32) <<< (nI a &&& 31))) 24 1 5000 _ (Nat.le_refl 1) (by omega) (by omega) (by rw [← e0]; exact H2)
  exact ⟨g', e1, e2, fun j h1 h2 => by rw [e3 j h2, up_n h1]⟩
/-- the union of what is told before those of a set -/
def tbaF (tb : Nat → Int32) (S : Int32) : Nat → Int32
  | 0 => 0
  | r + 1 => if bt S (r + 1) = true then tbaF tb S r ||| tb (r + 1) else tbaF tb S r
theorem tbaF_bit (tb : Nat → Int32) (S : Int32) (x : Nat) : ∀ n, bt (tbaF tb S n) x = true ↔ ∃ r, 1 ≤ r ∧ r ≤ n ∧ bt S r = true ∧ bt (tb r) x = true := by
  intro n
  induction n with
  | zero =>
    rw [tbaF, b_0]
    exact ⟨fun q => (by cases q), fun ⟨r, h1, h2, _⟩ => (by omega)⟩
  | succ n ih =>
    unfold tbaF
    by_cases q : bt S (n + 1) = true
    · rw [if_pos q, b_or, Bool.or_eq_true, ih]
      constructor
      · rintro (⟨r, h1, h2, h3⟩ | h)
        · exact ⟨r, h1, by omega, h3⟩
        · exact ⟨n + 1, by omega, by omega, q, h⟩
      · rintro ⟨r, h1, h2, h3, h4⟩
        by_cases e : r = n + 1
        · subst e; exact Or.inr h4
        · exact Or.inl ⟨r, h1, by omega, h3, h4⟩
    · rw [if_neg q, ih]
      constructor
      · rintro ⟨r, h1, h2, h3⟩; exact ⟨r, h1, by omega, h3⟩
      · rintro ⟨r, h1, h2, h3, h4⟩
        by_cases e : r = n + 1
        · subst e; exact absurd h3 q
        · exact ⟨r, h1, by omega, h3, h4⟩
theorem tba_loop (H : CG h tb ab ly tl tc) (S : Int32) : ∀ k i f, i + k = 24 → k < f → D_G_toldBeforeAny_4 f 8 S (tbaF tb S i) (nI (i + 1)) h = some (tbaF tb S 24) := by
  intro k
  induction k with
  | zero =>
    intro i f hi hf
    obtain ⟨f, rfl⟩ : ∃ g, f = g + 1 := ⟨f - 1, by omega⟩
    have e : i = 24 := by omega
    subst e
    simp only [D_G_toldBeforeAny_4]
    rw [if_pos (show (24 : Int32) < nI 25 by decide)]
  | succ k ih =>
    intro i f hi hf
    obtain ⟨f, rfl⟩ : ∃ g, f = g + 1 := ⟨f - 1, by omega⟩
    have hs := ih (i + 1) f (by omega) (by omega)
    simp only [D_G_toldBeforeAny_4, D_G_toldBeforeAny_27, isIn_eq S (i + 1) (show i + 1 < 32 by omega), xb1_some, w01i, H.t, xaI_at H.2.1 (show i + 1 < 25 by omega) (by decide), nI_1]
    rw [if_neg (show ¬ (24 : Int32) < nI (i + 1) from nI_nlt (a := 24) (by omega) (by omega))]
    rw [tbaF] at hs
    by_cases q : bt S (i + 1) = true
    · rw [if_neg (fun z => z q)]; rw [if_pos q] at hs; exact hs
    · rw [if_pos q]; rw [if_neg q] at hs; exact hs
theorem tba_eq (H : CG h tb ab ly tl tc) (S : Int32) : X_G_toldBeforeAny 8 S h = some (tbaF tb S 24) := tba_loop H S 24 0 5000 (by omega) (by omega)
theorem least_loop (H : CG h tb ab ly tl tc) (S : Int32) (u r : Nat) (hu : u < 32) (hr : r ≤ 24) (h1 : bt S r = true) (h2 : bt (tb r) u = true) (hm : ∀ j, 1 ≤ j → j < r → ¬ (bt S j = true ∧ bt (tb j) u = true)) : ∀ k i f, 1 ≤ i → i + k = r → k < f → D_G_leastBehind_2 f 8 (nI u) S (nI i) h = some (nI r) := by
  intro k
  induction k with
  | zero =>
    intro i f hi1 hi hf
    obtain ⟨f, rfl⟩ : ∃ g, f = g + 1 := ⟨f - 1, by omega⟩
    have e : i = r := by omega
    subst e
    simp only [D_G_leastBehind_2, D_G_leastBehind_31, isIn_eq S i (show i < 32 by omega), isIn_eq (tb i) u hu, xb1_some, w01i, H.t, xaI_at H.2.1 (show i < 25 by omega) (by decide), nI_1]
    rw [if_neg (show ¬ (24 : Int32) < nI i from nI_nlt (a := 24) (by omega) (by omega)), if_neg (fun z => z h1), if_neg (fun z => z h2)]
  | succ k ih =>
    intro i f hi1 hi hf
    obtain ⟨f, rfl⟩ : ∃ g, f = g + 1 := ⟨f - 1, by omega⟩
    have hs := ih (i + 1) f (by omega) (by omega) (by omega)
    simp only [D_G_leastBehind_2, D_G_leastBehind_31, isIn_eq S i (show i < 32 by omega), isIn_eq (tb i) u hu, xb1_some, w01i, H.t, xaI_at H.2.1 (show i < 25 by omega) (by decide), nI_1]
    rw [if_neg (show ¬ (24 : Int32) < nI i from nI_nlt (a := 24) (by omega) (by omega))]
    have hn := hm i hi1 (by omega)
    by_cases q : bt S i = true
    · rw [if_neg (fun z => z q), if_pos (fun z => hn ⟨q, z⟩)]; exact hs
    · rw [if_pos q]; exact hs
theorem leastBehind_eq (H : CG h tb ab ly tl tc) (S : Int32) (u r : Nat) (hu : u < 32) (hr1 : 1 ≤ r) (hr : r ≤ 24) (h1 : bt S r = true) (h2 : bt (tb r) u = true) (hm : ∀ j, 1 ≤ j → j < r → ¬ (bt S j = true ∧ bt (tb j) u = true)) : X_G_leastBehind 8 (nI u) S h = some (nI r) := least_loop H S u r hu hr h1 h2 hm (r - 1) 1 5000 (Nat.le_refl 1) (by omega) (by omega)
end CGs

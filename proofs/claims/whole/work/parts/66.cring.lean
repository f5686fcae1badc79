/-! the ring that the class tells -/
section CRs
variable {tb ab : Nat → Int32} {c : Nat}
/-- the way from b to a: each time the least runnable from which a can be reached in the steps that are left -/
def PathTo (tb : Nat → Int32) (a b d : Nat) (p : Nat → Nat) : Prop := p 0 = b ∧ ∀ i, i < d → (bt (tb (p (i + 1))) (p i) = true ∧ Wk tb (d - i - 1) (p (i + 1)) a ∧ ∀ r, r < p (i + 1) → ¬ (bt (tb r) (p i) = true ∧ Wk tb (d - i - 1) r a))
theorem path_ex {tb : Nat → Int32} {a : Nat} : ∀ d b, Wk tb d b a → ∃ p, PathTo tb a b d p := by
  intro d
  induction d with
  | zero => intro b _; exact ⟨fun _ => b, rfl, fun i hi => absurd hi (by omega)⟩
  | succ d ih =>
    intro b h
    obtain ⟨x0, e0, w0⟩ := h
    obtain ⟨x, ⟨e, w⟩, hm⟩ := pk_least (fun r => bt (tb r) b = true ∧ Wk tb d r a) ⟨x0, e0, w0⟩
    obtain ⟨p, hp0, hp⟩ := ih x w
    refine ⟨fun i => if i = 0 then b else p (i - 1), by simp, fun i hi => ?_⟩
    cases i with
    | zero =>
      simp only [Nat.zero_add, Nat.sub_self, if_neg (show ¬ (1 = 0) by decide), if_pos rfl, hp0, Nat.sub_zero, Nat.add_sub_cancel]
      exact ⟨e, w, hm⟩
    | succ i =>
      have h1 := hp i (by omega)
      have z1 : ¬ (i + 1 + 1 = 0) := by omega
      have z2 : ¬ (i + 1 = 0) := by omega
      have z3 : d + 1 - (i + 1) - 1 = d - i - 1 := by omega
      simp only [if_neg z1, if_neg z2, Nat.add_sub_cancel, z3]
      exact h1
theorem PathTo.wk {a b d : Nat} {p : Nat → Nat} (hw : Wk tb d b a) (h : PathTo tb a b d p) : ∀ i, i ≤ d → Wk tb (d - i) (p i) a := by
  intro i hi
  cases i with
  | zero => rw [h.1]; exact hw
  | succ i =>
    have := (h.2 i (by omega)).2.1
    rw [show d - (i + 1) = d - i - 1 by omega]
    exact this
theorem PathTo.rng {a b d : Nat} {p : Nat → Nat} (G : GI c tb ab) (hb : 1 ≤ b ∧ b ≤ c) (h : PathTo tb a b d p) : ∀ i, i ≤ d → 1 ≤ p i ∧ p i ≤ c := by
  intro i hi
  cases i with
  | zero => rw [h.1]; exact hb
  | succ i =>
    have := G.1 _ _ (h.2 i (by omega)).1
    exact ⟨this.2.2.1, this.2.2.2⟩
theorem layers_loop {ly0 tl : Nat → Int32} {tc : Int32} {a b d : Nat} (G : GI c tb ab) (hc : c ≤ 24) (hb : b ≤ 24) (hd : d ≤ 23) (hw : Wk tb d b a) (hl : ∀ m, Wk tb m b a → d ≤ m) : ∀ k n f (g : XH) (ly : Nat → Int32), n + k = d → k < f → CG g tb ab ly tl tc → (∀ m, m ≤ n → ∀ x, bt (ly m) x = true ↔ (x < 32 ∧ Wk tb m x a)) →
    ∃ g' ly', D_G_layersFrom_11 f 8 (nI b) (nI n) g = some (nI d, g') ∧ CG g' tb ab ly' tl tc ∧ (∀ m, m ≤ d → ∀ x, bt (ly' m) x = true ↔ (x < 32 ∧ Wk tb m x a)) ∧ ∀ j, j ≠ 11 → g' j = g j := by
  intro k
  induction k with
  | zero =>
    intro n f g ly hn hf H hL
    obtain ⟨f, rfl⟩ : ∃ g, f = g + 1 := ⟨f - 1, by omega⟩
    have e : n = d := by omega
    subst e
    refine ⟨g, ly, ?_, H, hL, fun _ _ => rfl⟩
    simp only [D_G_layersFrom_11, D_G_layersFrom_59, H.l, xb1_some, xaN_at H.2.2.2.1, xaI_at H.2.2.2.1 (show n < 24 by omega) (by decide), isIn_eq _ b (show b < 32 by omega), w01i]
    by_cases z : nI 24 - 1 ≤ nI n
    · rw [if_pos z]
    · rw [if_neg z, if_neg (fun z => z ((hL n (Nat.le_refl n) b).mpr ⟨by omega, hw⟩))]
  | succ k ih =>
    intro n f g ly hn hf H hL
    obtain ⟨f, rfl⟩ : ∃ g, f = g + 1 := ⟨f - 1, by omega⟩
    simp only [D_G_layersFrom_11, D_G_layersFrom_59, H.l, H.i, xb1_some, xchk_true, xaN_at H.2.2.2.1, xaI_at H.2.2.2.1 (show n < 24 by omega) (by decide), isIn_eq _ b (show b < 32 by omega), w01i, tba_eq H, nI_1, xaS_at H.2.2.2.1 (show n + 1 < 24 by omega) (by decide)]
    rw [if_neg (show ¬ (nI 24 - 1 ≤ nI n) by rw [nI_pred 23]; exact nI_ge (by omega) (by omega))]
    rw [if_pos (fun z => by
      have := hl n ((hL n (Nat.le_refl n) b).mp z).2
      omega)]
    obtain ⟨g', ly', q1, q2, q3, q4⟩ := ih (n + 1) f (va_up g 11 (.inl (.int, (24, .inl (upd ly (n + 1) (tbaF tb (ly n) 24)))))) (upd ly (n + 1) (tbaF tb (ly n) 24)) (by omega) (by omega) ⟨by rw [up_n (by decide)]; exact H.1, by rw [up_n (by decide)]; exact H.2.1, by rw [up_n (by decide)]; exact H.2.2.1, by rw [up_s], by rw [up_n (by decide)]; exact H.2.2.2.2⟩ (fun m hm x => by
      by_cases e : m = n + 1
      · subst e
        rw [upd_s, tbaF_bit]
        constructor
        · rintro ⟨r, r1, r2, r3, r4⟩
          have hx := G.1 x r r4
          exact ⟨by omega, r, r4, ((hL n (Nat.le_refl n) r).mp r3).2⟩
        · rintro ⟨-, r, r4, w⟩
          have hx := G.1 x r r4
          exact ⟨r, hx.2.2.1, by omega, (hL n (Nat.le_refl n) r).mpr ⟨by omega, w⟩, r4⟩
      · rw [upd_n e]; exact hL m (by omega) x)
    exact ⟨g', ly', q1, q2, q3, fun j hj => by rw [q4 j hj, up_n hj]⟩
theorem layers_eq {h : XH} {ly tl : Nat → Int32} {tc : Int32} {a b d : Nat} (H : CG h tb ab ly tl tc) (G : GI c tb ab) (hc : c ≤ 24) (ha : a ≤ 24) (hb : b ≤ 24) (hd : d ≤ 23) (hw : Wk tb d b a) (hl : ∀ m, Wk tb m b a → d ≤ m) :
    ∃ g' ly', X_G_layersFrom 8 (nI a) (nI b) h = some (nI d, g') ∧ CG g' tb ab ly' tl tc ∧ (∀ m, m ≤ d → ∀ x, bt (ly' m) x = true ↔ (x < 32 ∧ Wk tb m x a)) ∧ ∀ j, j ≠ 11 → g' j = h j := by
  unfold X_G_layersFrom D_G_layersFrom_0
  have e0 : xaS h 11 (0 : Int32) ((1 : Int32) <<< (nI a &&& 31)) = some (va_up h 11 (.inl (.int, (24, .inl (upd ly 0 ((1 : Int32) <<< (nI a &&& 31))))))) := xaS_at (i := 0) H.2.2.2.1 (by decide) (by decide)
  rw [H.l, xb1_some, e0, xb1_some]
  obtain ⟨g', ly', q1, q2, q3, q4⟩ := layers_loop (ly0 := ly) (tl := tl) (tc := tc) G hc hb hd hw hl d 0 5000 (va_up h 11 (.inl (.int, (24, .inl (upd ly 0 ((1 : Int32) <<< (nI a &&& 31))))))) (upd ly 0 ((1 : Int32) <<< (nI a &&& 31))) (by omega) (by omega) ⟨by rw [up_n (by decide)]; exact H.1, by rw [up_n (by decide)]; exact H.2.1, by rw [up_n (by decide)]; exact H.2.2.1, by rw [up_s], by rw [up_n (by decide)]; exact H.2.2.2.2⟩ (fun m hm x => by
    have e : m = 0 := by omega
    subst e
    rw [upd_s]
    rcases Nat.lt_or_ge x 32 with hx | hx
    · rw [b_sh a (by omega) hx, decide_eq_true_eq]
      exact ⟨fun q => ⟨hx, q⟩, fun q => q.2⟩
    · rw [b_big hx]
      exact ⟨fun q => (by cases q), fun q => (by omega)⟩)
  exact ⟨g', ly', q1, q2, q3, fun j hj => by rw [q4 j hj, up_n hj]⟩
theorem tell_loop {ly tl0 : Nat → Int32} {tc : Int32} {a b d : Nat} {p : Nat → Nat} (G : GI c tb ab) (hc : c ≤ 24) (hb : 1 ≤ b ∧ b ≤ c) (hd : d ≤ 23) (hw : Wk tb d b a) (hp : PathTo tb a b d p) (hL : ∀ m, m ≤ d → ∀ x, bt (ly m) x = true ↔ (x < 32 ∧ Wk tb m x a)) : ∀ k i f (g : XH) (tl : Nat → Int32), i + k = d → k < f → CG g tb ab ly tl tc → (∀ j, j ≤ i → tl j = nI (p j)) →
    ∃ g' tl', D_G_tellRing_17 f 8 (nI d) (nI (i + 1)) g = some g' ∧ CG g' tb ab ly tl' (nI (d + 1)) ∧ (∀ j, j ≤ d → tl' j = nI (p j)) ∧ ∀ j, j ≠ 8 → j ≠ 12 → g' j = g j := by
  intro k
  induction k with
  | zero =>
    intro i f g tl hi hf H hT
    obtain ⟨f, rfl⟩ : ∃ g, f = g + 1 := ⟨f - 1, by omega⟩
    have e : i = d := by omega
    subst e
    refine ⟨va_up g 8 (.inr (2, [.ref 9, .ref 10, .ref 11, .ref 12, .int (nI (i + 1))])), tl, ?_, ⟨by rw [up_s], by rw [up_n (by decide)]; exact H.2.1, by rw [up_n (by decide)]; exact H.2.2.1, by rw [up_n (by decide)]; exact H.2.2.2.1, by rw [up_n (by decide)]; exact H.2.2.2.2⟩, hT, fun j h1 h2 => up_n h1⟩
    simp only [D_G_tellRing_17, xp_at (k := 4) H.1 (show 4 < 5 by decide), xb1_some, nI_1]
    rw [if_pos (nI_lt (by omega) (by omega))]
    rfl
  | succ k ih =>
    intro i f g tl hi hf H hT
    obtain ⟨f, rfl⟩ : ∃ g, f = g + 1 := ⟨f - 1, by omega⟩
    have e1 : nI (i + 1) - 1 = nI i := nI_pred i
    have e2 : nI d - nI (i + 1) = nI (d - (i + 1)) := pk_sub (by omega)
    obtain ⟨p1, p2, p3⟩ := hp.2 i (by omega)
    have r1 := hp.rng G hb i (by omega)
    have r2 := hp.rng G hb (i + 1) (by omega)
    have hLm := hL (d - (i + 1)) (by omega)
    rw [show d - i - 1 = d - (i + 1) by omega] at p2 p3
    have hlb := leastBehind_eq H (ly (d - (i + 1))) (p i) (p (i + 1)) (by omega) r2.1 (by omega) ((hLm _).mpr ⟨by omega, p2⟩) p1 (fun j j1 j2 z => p3 j j2 ⟨z.2, ((hLm j).mp z.1).2⟩)
    simp only [D_G_tellRing_17, H.o, H.l, H.i, xb1_some, xchk_true, e1, e2, xaI_at H.2.2.2.2 (show i < 24 by omega) (by decide), xaI_at H.2.2.2.1 (show d - (i + 1) < 24 by omega) (by decide), hT i (Nat.le_refl i), hlb, xaS_at H.2.2.2.2 (show i + 1 < 24 by omega) (by decide), nI_1]
    rw [if_neg (nI_nlt (by omega) (by omega))]
    obtain ⟨g', tl', q1, q2, q3, q4⟩ := ih (i + 1) f (va_up g 12 (.inl (.int, (24, .inl (upd tl (i + 1) (nI (p (i + 1)))))))) (upd tl (i + 1) (nI (p (i + 1)))) (by omega) (by omega) ⟨by rw [up_n (by decide)]; exact H.1, by rw [up_n (by decide)]; exact H.2.1, by rw [up_n (by decide)]; exact H.2.2.1, by rw [up_n (by decide)]; exact H.2.2.2.1, by rw [up_s]⟩ (fun j hj => by
      by_cases e : j = i + 1
      · subst e; rw [upd_s]
      · rw [upd_n e]; exact hT j (by omega))
    exact ⟨g', tl', q1, q2, q3, fun j h1 h2 => by rw [q4 j h1 h2, up_n h2]⟩
theorem tell_eq {h : XH} {ly tl : Nat → Int32} {tc : Int32} {a b d : Nat} {p : Nat → Nat} (H : CG h tb ab ly tl tc) (G : GI c tb ab) (hc : c ≤ 24) (ha : a ≤ 24) (hb : 1 ≤ b ∧ b ≤ c) (hd : d ≤ 23) (hw : Wk tb d b a) (hl : ∀ m, Wk tb m b a → d ≤ m) (hp : PathTo tb a b d p) :
    ∃ g' ly' tl', X_G_tellRing 8 (nI a) (nI b) h = some g' ∧ CG g' tb ab ly' tl' (nI (d + 1)) ∧ (∀ j, j ≤ d → tl' j = nI (p j)) ∧ ∀ j, j ≠ 8 → j ≠ 11 → j ≠ 12 → g' j = h j := by
  unfold X_G_tellRing D_G_tellRing_0
  obtain ⟨g1, ly', q1, q2, q3, q4⟩ := layers_eq H G hc ha (show b ≤ 24 by omega) hd hw hl
  have e0 : xaS g1 12 (0 : Int32) (nI b) = some (va_up g1 12 (.inl (.int, (24, .inl (upd tl 0 (nI b)))))) := xaS_at (i := 0) q2.2.2.2.2 (by decide) (by decide)
  rw [H.i, xchk_true, q1, xb2_some, q2.o, xb1_some, e0, xb1_some]
  obtain ⟨g', tl', s1, s2, s3, s4⟩ := tell_loop (tl0 := tl) (tc := tc) G hc hb hd hw hp q3 d 0 5000 (va_up g1 12 (.inl (.int, (24, .inl (upd tl 0 (nI b)))))) (upd tl 0 (nI b)) (by omega) (by omega) ⟨by rw [up_n (by decide)]; exact q2.1, by rw [up_n (by decide)]; exact q2.2.1, by rw [up_n (by decide)]; exact q2.2.2.1, by rw [up_n (by decide)]; exact q2.2.2.2.1, by rw [up_s]⟩ (fun j hj => by
    have e : j = 0 := by omega
    subst e
    rw [upd_s, hp.1])
  exact ⟨g', ly', tl', s1, s2, s3, fun j h1 h2 h3 => by rw [s4 j h1 h3, up_n h3, q4 j h2]⟩
end CRs

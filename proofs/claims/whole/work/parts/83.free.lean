/-! the next of a task: the least that comes behind none that is left -/
def frF (ab : Nat → Int32) (L : Int32) (r : Nat) : Prop := bt L r = true ∧ (ab r &&& L) = 0
section Fr
variable {c : Nat} {tb ab ly tl : Nat → Int32} {h g : XH} {L : Int32} {tc : Int32}
theorem fr_some (G : GI c tb ab) (hc : c ≤ 24) (hL : ∀ r, bt L r = true → 1 ≤ r ∧ r ≤ c) : ∀ n r, cntB (ab r) c ≤ n → bt L r = true → ∃ r', frF ab L r' := by
  intro n
  induction n with
  | zero =>
    intro r hn hr
    by_cases q : (ab r &&& L) = 0
    · exact ⟨r, hr, q⟩
    · exfalso
      apply q
      rw [b_and0]
      rintro a - ⟨h1, h2⟩
      have hr' := hL r hr
      obtain ⟨k, w⟩ := (G.2.1 a r (by omega)).mp h1
      have := Wk.cnt G hc w hr'
      omega
  | succ n ih =>
    intro r hn hr
    by_cases q : (ab r &&& L) = 0
    · exact ⟨r, hr, q⟩
    · have hr' := hL r hr
      obtain ⟨a, h1, h2⟩ : ∃ a, bt (ab r) a = true ∧ bt L a = true := by
        apply Classical.byContradiction
        intro z
        exact q (b_and0.mpr (fun i _ w => z ⟨i, w⟩))
      obtain ⟨k, w⟩ := (G.2.1 a r (by omega)).mp h1
      have := Wk.cnt G hc w hr'
      exact ih a (by omega) h2
theorem fr_least (G : GI c tb ab) (hc : c ≤ 24) (hL : ∀ r, bt L r = true → 1 ≤ r ∧ r ≤ c) (h0 : L ≠ 0) : ∃ r, 1 ≤ r ∧ r ≤ c ∧ frF ab L r ∧ ∀ j, j < r → ¬ frF ab L j := by
  obtain ⟨i, hi⟩ : ∃ i, bt L i = true := by
    apply Classical.byContradiction
    intro z
    exact h0 (b_zero.mpr (fun i _ => by
      cases q : bt L i
      · rfl
      · exact absurd ⟨i, q⟩ z))
  obtain ⟨r, r1, r2⟩ := pk_least (frF ab L) (fr_some G hc hL _ i (Nat.le_refl _) hi)
  have := hL r r1.1
  exact ⟨r, this.1, this.2, r1, r2⟩
theorem free_loop (H : CG h tb ab ly tl tc) (r : Nat) (hr : r ≤ 24) (h1 : frF ab L r) (hm : ∀ j, j < r → ¬ frF ab L j) : ∀ k i f, 1 ≤ i → i + k = r → k < f → D_G_leastFree_2 f 8 L (nI i) h = some (nI r) := by
  intro k
  induction k with
  | zero =>
    intro i f i1 hi hf
    obtain ⟨f, rfl⟩ : ∃ g, f = g + 1 := ⟨f - 1, by omega⟩
    obtain rfl : i = r := by omega
    simp only [D_G_leastFree_2, isIn_eq _ i (show i < 32 by omega), xb1_some, w01i, H.a, xaI_at H.2.2.1 (show i < 25 by omega) (by decide)]
    rw [if_neg (show ¬ (24 : Int32) < nI i from nI_nlt (a := 24) (by omega) (by omega)), if_neg (fun z => z h1.1), if_pos h1.2]
  | succ k ih =>
    intro i f i1 hi hf
    obtain ⟨f, rfl⟩ : ∃ g, f = g + 1 := ⟨f - 1, by omega⟩
    have hs := ih (i + 1) f (by omega) (by omega) (by omega)
    have hn := hm i (by omega)
    simp only [D_G_leastFree_2, D_G_leastFree_29, isIn_eq _ i (show i < 32 by omega), xb1_some, w01i, H.a, xaI_at H.2.2.1 (show i < 25 by omega) (by decide), nI_1]
    rw [if_neg (show ¬ (24 : Int32) < nI i from nI_nlt (a := 24) (by omega) (by omega))]
    by_cases q : bt L i = true
    · rw [if_neg (fun z => z q), if_neg (fun z => hn ⟨q, z⟩)]; exact hs
    · rw [if_pos q]; exact hs
theorem leastFree_eq (H : CG h tb ab ly tl tc) (r : Nat) (h0 : 1 ≤ r) (hr : r ≤ 24) (h1 : frF ab L r) (hm : ∀ j, j < r → ¬ frF ab L j) : X_G_leastFree 8 L h = some (nI r) := free_loop H r hr h1 hm (r - 1) 1 5000 (Nat.le_refl 1) (by omega) (by omega)
/-- the reference's search goes past those that are not free -/
theorem scan_loop {F : Nat → Int32} (H : MG g c tb F) (G : GI c tb ab) (hi : xis g 4 20 = true) (hc : c ≤ 24) (hL : ∀ r, bt L r = true → 1 ≤ r ∧ r ≤ c) (r : Nat) (hr : r ≤ c) (h1 : frF ab L r) (hm : ∀ j, j < r → ¬ frF ab L j) (x y t q : Int32) (k29 : Nat → Int32 → Int32 → Int32 → Int32 → Int32 → XH → Option XH) : ∀ k i f, 1 ≤ i → i + k = r → k < f → D_M_addTask_37 k29 f 20 x y t q L (nI i) g = xb1 (xgR g 4 17 20) (fun q7 => xb1 (xaS g q7 q (nI r)) fun h8 => xb1 (xgR h8 4 18 20) fun q11 => xb1 (xaS h8 q11 (nI r) (t + 1)) fun h12 => k29 20 x y t (q + 1) (L &&& (((1 : Int32) <<< (nI r &&& 31)) ^^^ (-1))) h12) := by
  intro k
  induction k with
  | zero =>
    intro i f i1 hik hf
    obtain ⟨f, rfl⟩ : ∃ g, f = g + 1 := ⟨f - 1, by omega⟩
    obtain rfl : i = r := by omega
    simp only [D_M_addTask_37, b_shr_f _ i (show i < 32 by omega), hi, xchk_true, behind_eq H G hc i i1 hr, xb1_some]
    rw [if_neg (by rw [h1.1]; decide), if_pos h1.2]
  | succ k ih =>
    intro i f i1 hik hf
    obtain ⟨f, rfl⟩ : ∃ g, f = g + 1 := ⟨f - 1, by omega⟩
    have hs := ih (i + 1) f (by omega) (by omega) (by omega)
    have hn := hm i (by omega)
    simp only [D_M_addTask_37, D_M_addTask_59, b_shr_f _ i (show i < 32 by omega), hi, xchk_true, behind_eq H G hc i i1 (by omega), xb1_some, nI_1]
    by_cases z : bt L i = true
    · rw [if_neg (by rw [z]; decide), if_neg (fun w => hn ⟨z, w⟩)]; exact hs
    · rw [if_pos (by simpa using z)]; exact hs
end Fr

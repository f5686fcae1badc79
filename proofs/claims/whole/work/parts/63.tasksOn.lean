/-! how many tasks a core would have -/
def tonF (pe co : Nat → Int32) (x : Int32) : Nat → Nat
  | 0 => 0
  | r + 1 => tonF pe co x r + (if co (r + 1) = x ∧ opF pe co (r + 1) then 1 else 0)
theorem tonF_le (pe co : Nat → Int32) (x : Int32) : ∀ r, tonF pe co x r ≤ r := by
  intro r
  induction r with
  | zero => exact Nat.le_refl 0
  | succ r ih => unfold tonF; split <;> omega
abbrev fsF (pe co : Nat → Int32) (x : Int32) (r j : Nat) : Prop := co r = x ∧ ∀ k, k < j → 1 ≤ k → pe r = 0 ∨ ¬ (co k = x ∧ pe k = pe r)
theorem fsF_op {pe co : Nat → Int32} {x : Int32} {r : Nat} : fsF pe co x r r ↔ co r = x ∧ opF pe co r := by
  constructor
  · rintro ⟨h1, h2⟩
    refine ⟨h1, ?_⟩
    by_cases h0 : pe r = 0
    · exact Or.inl h0
    · refine Or.inr fun k hk h1k => ?_
      rcases h2 k hk h1k with q | q
      · exact absurd q h0
      · rw [h1]; exact q
  · rintro ⟨h1, h2⟩
    refine ⟨h1, fun k hk h1k => ?_⟩
    rcases h2 with q | q
    · exact Or.inl q
    · have := q k hk h1k
      rw [h1] at this
      exact Or.inr this
section RT
variable {h : XH} {c : Nat} {pe co sp rd wr : Nat → Int32}
theorem tasksOn_loop (H : CU h c pe co sp rd wr) (hc : c ≤ 24) (x : Int32) : ∀ k i f, i + k = c → k < f → D_U_tasksOn_4 f 2 x (nI (tonF pe co x i)) (nI (i + 1)) h = some (nI (tonF pe co x c)) := by
  have g1 := H.c
  have g3 := H.k
  have g4 := H.i
  have e4 := H.2.2.1
  intro k
  induction k with
  | zero =>
    intro i f hi hf
    obtain ⟨f, rfl⟩ : ∃ g, f = g + 1 := ⟨f - 1, by omega⟩
    have : i = c := by omega
    subst this
    simp only [D_U_tasksOn_4, g1, xb1_some]
    rw [if_pos (nI_lt (by omega) (by omega))]
  | succ k ih =>
    intro i f hi hf
    obtain ⟨f, rfl⟩ : ∃ g, f = g + 1 := ⟨f - 1, by omega⟩
    have hs := ih (i + 1) f (by omega) (by omega)
    simp only [D_U_tasksOn_4, D_U_tasksOn_33, g1, g3, g4, xb1_some, xchk_true, xaI_at e4 (show i + 1 < 25 by omega) (by decide), nI_1, opens_eq H (i + 1) (by omega) (by omega), w01i]
    rw [if_neg (nI_nlt (by omega) (by omega))]
    rw [tonF] at hs
    by_cases h1 : co (i + 1) = x
    · rw [if_pos h1]
      by_cases h2 : opF pe co (i + 1)
      · rw [if_neg (fun q => q h2)]; rw [if_pos ⟨h1, h2⟩] at hs; exact hs
      · rw [if_pos h2]; rw [if_neg (fun q => h2 q.2)] at hs; exact hs
    · rw [if_neg h1]; rw [if_neg (fun q => h1 q.1)] at hs; exact hs
theorem tasksOn_eq (H : CU h c pe co sp rd wr) (hc : c ≤ 24) (x : Int32) : X_U_tasksOn 2 x h = some (nI (tonF pe co x c)) := tasksOn_loop H hc x c 0 5000 (by omega) (by omega)
theorem mtasksOn_in (H : MU h c pe co sp) (x x2 : Int32) (r : Nat) (hr : r ≤ 24) (k4 : Nat → Int32 → Int32 → Int32 → XH → Option (Int32)) : ∀ k j f, 1 ≤ j → j + k = r → k < f → D_M_tasksOn_32 k4 f 20 x x2 (nI r) (if fsF pe co x r j then 1 else 0) (nI j) h = k4 20 x (x2 + (if fsF pe co x r r then 1 else 0)) (nI (r + 1)) h := by
  have g2 := H.p
  have g3 := H.k
  obtain ⟨-, e3, e4, -⟩ := H
  intro k
  induction k with
  | zero =>
    intro j f h1 hj hf
    obtain ⟨f, rfl⟩ : ∃ g, f = g + 1 := ⟨f - 1, by omega⟩
    have : j = r := by omega
    subst this
    simp only [D_M_tasksOn_32, D_M_tasksOn_103, nI_1]
    rw [if_pos (nI_le (by omega) (by omega))]
    by_cases hp : fsF pe co x j j
    · rw [if_pos hp, if_neg (by decide)]
    · rw [if_neg hp, if_pos rfl]
  | succ k ih =>
    intro j f h1 hj hf
    obtain ⟨f, rfl⟩ : ∃ g, f = g + 1 := ⟨f - 1, by omega⟩
    have hs := ih (j + 1) f (by omega) (by omega) (by omega)
    have nx : fsF pe co x r (j + 1) ↔ fsF pe co x r j ∧ (pe r = 0 ∨ ¬ (co j = x ∧ pe j = pe r)) := by
      constructor
      · rintro ⟨a, b⟩
        exact ⟨⟨a, fun k hk h1k => b k (by omega) h1k⟩, b j (by omega) h1⟩
      · rintro ⟨⟨a, b⟩, c⟩
        refine ⟨a, fun k hk h1k => ?_⟩
        rcases Nat.lt_or_ge k j with q | q
        · exact b k q h1k
        · have : k = j := by omega
          subst this; exact c
    simp only [D_M_tasksOn_32, D_M_tasksOn_79, D_M_tasksOn_83, D_M_tasksOn_84, g2, g3, xb1_some, xaI_at e4 (show j < 25 by omega) (by decide), xaI_at e3 (show j < 25 by omega) (by decide), xaI_at e3 (show r < 25 by omega) (by decide), nI_1]
    rw [if_neg (nI_ge (by omega) (by omega))]
    by_cases hp : fsF pe co x r j
    · rw [if_pos hp, if_neg (by decide)]
      by_cases a : pe r = 0
      · rw [if_pos a]
        rw [if_pos (nx.mpr ⟨hp, Or.inl a⟩)] at hs; exact hs
      · rw [if_neg a]
        by_cases b : co j = x
        · rw [if_pos b]
          by_cases d : pe j = pe r
          · rw [if_pos d]
            rw [if_neg (fun q => (nx.mp q).2.elim a (fun z => z ⟨b, d⟩))] at hs; exact hs
          · rw [if_neg d]
            rw [if_pos (nx.mpr ⟨hp, Or.inr (fun z => d z.2)⟩)] at hs; exact hs
        · rw [if_neg b]
          rw [if_pos (nx.mpr ⟨hp, Or.inr (fun z => b z.1)⟩)] at hs; exact hs
    · rw [if_neg hp, if_pos rfl]
      rw [if_neg (fun q => hp (nx.mp q).1)] at hs; exact hs
theorem mtasksOn_loop (H : MU h c pe co sp) (hc : c ≤ 24) (x : Int32) : ∀ k i f, i + k = c → k < f → D_M_tasksOn_4 f 20 x (nI (tonF pe co x i)) (nI (i + 1)) h = some (nI (tonF pe co x c)) := by
  have g1 := H.c
  have g3 := H.k
  have e4 := H.2.2.1
  intro k
  induction k with
  | zero =>
    intro i f hi hf
    obtain ⟨f, rfl⟩ : ∃ g, f = g + 1 := ⟨f - 1, by omega⟩
    have : i = c := by omega
    subst this
    simp only [D_M_tasksOn_4, g1, xb1_some]
    rw [if_pos (nI_lt (by omega) (by omega))]
  | succ k ih =>
    intro i f hi hf
    obtain ⟨f, rfl⟩ : ∃ g, f = g + 1 := ⟨f - 1, by omega⟩
    have hs := ih (i + 1) f (by omega) (by omega)
    have hin := mtasksOn_in H x (nI (tonF pe co x i)) (i + 1) (by omega) (D_M_tasksOn_4 f) i 1 5000 (Nat.le_refl 1) (by omega) (by omega)
    have f1 : fsF pe co x (i + 1) 1 ↔ co (i + 1) = x := ⟨fun q => q.1, fun q => ⟨q, fun k hk h1 => absurd h1 (by omega)⟩⟩
    have e9 : nI (tonF pe co x i) + (if fsF pe co x (i + 1) (i + 1) then 1 else 0) = nI (tonF pe co x (i + 1)) := by
      rw [tonF]
      by_cases q : co (i + 1) = x ∧ opF pe co (i + 1)
      · rw [if_pos q, if_pos (fsF_op.mpr q)]; exact nI_1 _
      · rw [if_neg q, if_neg (fun z => q (fsF_op.mp z))]; simp
    rw [e9] at hin
    have hin := hin.trans hs
    simp only [D_M_tasksOn_4, D_M_tasksOn_27, g1, g3, xb1_some, xaI_at e4 (show i + 1 < 25 by omega) (by decide)]
    rw [if_neg (nI_nlt (by omega) (by omega))]
    by_cases q : co (i + 1) = x
    · rw [if_pos q]
      rw [if_pos (f1.mpr q)] at hin; exact hin
    · rw [if_neg q]
      rw [if_neg (fun z => q (f1.mp z))] at hin; exact hin
theorem mtasksOn_eq (H : MU h c pe co sp) (hc : c ≤ 24) (x : Int32) : X_M_tasksOn 20 x h = some (nI (tonF pe co x c)) := mtasksOn_loop H hc x c 0 5000 (by omega) (by omega)
end RT

/-- the least period of a core above low among 1 .. i; 0 if there is none -/
def paF (pN : Nat → Nat) (co : Nat → Int32) (x : Int32) (low : Nat) : Nat → Nat
  | 0 => 0
  | i + 1 => if co (i + 1) = x ∧ low < pN (i + 1) ∧ (paF pN co x low i = 0 ∨ pN (i + 1) < paF pN co x low i) then pN (i + 1) else paF pN co x low i
theorem paF_spec (pN : Nat → Nat) (co : Nat → Int32) (x : Int32) (low : Nat) : ∀ n, (paF pN co x low n = 0 ∧ ∀ r, 1 ≤ r → r ≤ n → co r = x → pN r ≤ low) ∨ (low < paF pN co x low n ∧ (∃ r, 1 ≤ r ∧ r ≤ n ∧ co r = x ∧ pN r = paF pN co x low n) ∧ ∀ r, 1 ≤ r → r ≤ n → co r = x → low < pN r → paF pN co x low n ≤ pN r) := by
  intro n
  induction n with
  | zero => exact Or.inl ⟨rfl, fun r h1 h2 => by omega⟩
  | succ n ih =>
    rw [paF]
    by_cases q : co (n + 1) = x ∧ low < pN (n + 1) ∧ (paF pN co x low n = 0 ∨ pN (n + 1) < paF pN co x low n)
    · rw [if_pos q]
      refine Or.inr ⟨q.2.1, ⟨n + 1, by omega, by omega, q.1, rfl⟩, fun r h1 h2 h3 h4 => ?_⟩
      by_cases e : r = n + 1
      · rw [e]; exact Nat.le_refl _
      · rcases ih with ⟨i1, i2⟩ | ⟨i1, i2, i3⟩
        · have := i2 r h1 (by omega) h3; omega
        · have := i3 r h1 (by omega) h3 h4
          rcases q.2.2 with z | z <;> omega
    · rw [if_neg q]
      rcases ih with ⟨i1, i2⟩ | ⟨i1, ⟨r, r1, r2, r3, r4⟩, i3⟩
      · refine Or.inl ⟨i1, fun r h1 h2 h3 => ?_⟩
        by_cases e : r = n + 1
        · subst e
          rcases Nat.lt_or_ge low (pN (n + 1)) with z | z
          · exact absurd ⟨h3, z, Or.inl i1⟩ q
          · exact z
        · exact i2 r h1 (by omega) h3
      · refine Or.inr ⟨i1, ⟨r, r1, by omega, r3, r4⟩, fun r' h1 h2 h3 h4 => ?_⟩
        by_cases e : r' = n + 1
        · subst e
          rcases Nat.lt_or_ge (pN (n + 1)) (paF pN co x low n) with z | z
          · exact absurd ⟨h3, h4, Or.inr z⟩ q
          · exact z
        · exact i3 r' h1 (by omega) h3 h4
section Pe
variable {p c : Nat} {rO : Nat → Int32} {x : Int32} {pe co sp rd wr tb ab ly tl : Nat → Int32} {cd : Int32} {tc B : Nat} {bu tcx : Int32} {pN : Nat → Nat}
theorem paF_le (hN : ∀ r, 1 ≤ r → r ≤ c → pe r = nI (pN r) ∧ pN r ≤ 1000) (low n : Nat) (hn : n ≤ c) : paF pN co x low n ≤ 1000 := by
  rcases paF_spec pN co x low n with ⟨i1, -⟩ | ⟨-, ⟨r, r1, r2, -, r4⟩, -⟩
  · rw [i1]; decide
  · rw [← r4]; exact (hN r r1 (by omega)).2
theorem above_loop {h : XH} (H : CU h c pe co sp rd wr) (hc : c ≤ 24) (hN : ∀ r, 1 ≤ r → r ≤ c → pe r = nI (pN r) ∧ pN r ≤ 1000) (low : Nat) (hl : low ≤ 1000) : ∀ k i f, i + k = c → k < f → D_U_periodAbove_5 f 2 x (nI low) (nI (paF pN co x low i)) (nI (i + 1)) h = some (nI (paF pN co x low c)) := by
  intro k
  induction k with
  | zero =>
    intro i f hi hf
    obtain ⟨f, rfl⟩ : ∃ g, f = g + 1 := ⟨f - 1, by omega⟩
    obtain rfl : i = c := by omega
    simp only [D_U_periodAbove_5, H.c, xb1_some]
    rw [if_pos (nI_lt (by omega) (by omega))]
  | succ k ih =>
    intro i f hi hf
    obtain ⟨f, rfl⟩ : ∃ g, f = g + 1 := ⟨f - 1, by omega⟩
    have hs := ih (i + 1) f (by omega) (by omega)
    obtain ⟨n1, n2⟩ := hN (i + 1) (by omega) (by omega)
    have n3 := paF_le (x := x) (co := co) hN low i (by omega)
    simp only [D_U_periodAbove_5, D_U_periodAbove_51, D_U_periodAbove_59, H.c, H.p, H.k, xb1_some, xaI_at H.2.2.1 (show i + 1 < 25 by omega) (by decide), xaI_at H.2.1 (show i + 1 < 25 by omega) (by decide), n1, nI_1]
    rw [if_neg (nI_nlt (by omega) (by omega))]
    rw [paF] at hs
    by_cases e : co (i + 1) = x
    · rw [if_pos e]
      by_cases e1 : low < pN (i + 1)
      · rw [if_neg (nI_ge e1 (by omega))]
        by_cases e2 : paF pN co x low i = 0
        · rw [if_pos ⟨e, e1, Or.inl e2⟩] at hs
          rw [e2, if_pos (show nI 0 = 0 from rfl)]; exact hs
        · rw [if_neg (nI_ne0 (by omega) (by omega))]
          by_cases e3 : pN (i + 1) < paF pN co x low i
          · rw [if_pos ⟨e, e1, Or.inr e3⟩] at hs
            rw [if_neg (nI_ge e3 (by omega))]; exact hs
          · rw [if_neg (fun z => z.2.2.elim e2 e3)] at hs
            rw [if_pos (nI_le (by omega) (by omega))]; exact hs
      · rw [if_neg (fun z => e1 z.2.1)] at hs
        rw [if_pos (nI_le (by omega) (by omega))]; exact hs
    · rw [if_neg (fun z => e z.1)] at hs
      rw [if_neg e]; exact hs
theorem above_eq {h : XH} (H : CU h c pe co sp rd wr) (hc : c ≤ 24) (hN : ∀ r, 1 ≤ r → r ≤ c → pe r = nI (pN r) ∧ pN r ≤ 1000) (low : Nat) (hl : low ≤ 1000) : X_U_periodAbove 2 x (nI low) h = some (nI (paF pN co x low c)) := above_loop H hc hN low hl c 0 5000 (by omega) (by omega)
theorem grp_zero (hc : c ≤ 24) (hN : ∀ r, 1 ≤ r → r ≤ c → pe r = nI (pN r) ∧ pN r ≤ 1000) {m : Nat} (hm : m ≤ 1000) (h : ∀ r, 1 ≤ r → r ≤ c → co r = x → pN r ≠ m) : grpF pe co x (nI m) c = 0 := by
  rw [b_zero]
  intro i hi
  rw [grpF_bit pe co x (nI m) i hi c (by omega)]
  apply decide_eq_false
  rintro ⟨a, b, d, e⟩
  obtain ⟨n1, n2⟩ := hN i a b
  rw [n1] at e
  exact h i a b d ((nI_eq (by omega) (by omega)).mp e)
theorem mskip {g : XH} {A : Nat → Nat → Int32} (M : CM g A cd c tc bu B) (hc : c ≤ 24) (h21 : A 21 = pe) (h22 : A 22 = co) : ∀ j m f, m + j ≤ 1001 → (∀ m', m ≤ m' → m' < m + j → grpF pe co x (nI m') c = 0) → D_M_makeTasks_46 (f + j) 20 x (nI m) g = D_M_makeTasks_46 f 20 x (nI (m + j)) g := by
  intro j
  induction j with
  | zero => intro m f _ _; rfl
  | succ j ih =>
    intro m f hm hz
    have w := with_eq M.mu hc x (nI m)
    rw [h21, h22, hz m (Nat.le_refl m) (by omega)] at w
    rw [show f + (j + 1) = (f + j) + 1 by omega]
    simp only [D_M_makeTasks_46, D_M_makeTasks_71, M.i, xchk_true, w, xb1_some, nI_1]
    rw [if_neg (show ¬ (1000 : Int32) < nI m from nI_nlt (a := 1000) (by omega) (by decide)), if_pos trivial, ih (m + 1) f (by omega) (fun m' a b => hz m' (by omega) (by omega)), show m + 1 + j = m + (j + 1) by omega]
theorem St.room {h g : XH} {A : Nat → Nat → Int32} {T : Nat} {S W : Nat → Nat} {K Q : Nat → Int32} {ps : Int32} (H : St h g p c pe co A cd tc bu B T S W K Q ps rO) (hc : c ≤ 24) {r : Nat} (r1 : 1 ≤ r) (r2 : r ≤ c) (z : bt ps r = false) : T < 24 := by
  have := cntB_full (S := ps) 24 r r1 (by omega) (by rw [z]; decide)
  have l := H.1.2.2.1
  have tl : ∀ t, t ≤ T → t ≤ S t := by
    intro t
    induction t with
    | zero => intro _; exact Nat.zero_le _
    | succ t ih =>
      intro ht
      have := ih (by omega)
      have := H.1.1.2.2.2.1 t (by omega)
      omega
  have := tl T (Nat.le_refl T)
  omega
theorem per_loop (hc : c ≤ 24) (G : GI c tb ab) (hp : 13 ≤ p) (hN : ∀ r, 1 ≤ r → r ≤ c → pe r = nI (pN r) ∧ pN r ≤ 1000) (ps0 : Int32) (h0 : ∀ r, 1 ≤ r → r ≤ c → co r = x → bt ps0 r = false) : ∀ N low n f1 f2 (h g : XH) (A : Nat → Nat → Int32) (T : Nat) (S W : Nat → Nat) (K Q : Nat → Int32) (ps : Int32), 1000 ≤ low + N → low ≤ 1000 → 1001 - low < f1 → 1001 - low < f2 → n ≤ T → St h g p c pe co A cd tc bu B T S W K Q ps rO → CG h tb ab ly tl tcx → CU h c pe co sp rd wr → A 24 = tb → A 21 = pe → A 22 = co → (∀ r, bt ps r = (bt ps0 r || decide (1 ≤ r ∧ r ≤ c ∧ co r = x ∧ pN r ≤ low))) → ∃ h' g' A' T' S' W' K' Q' ps', D_P_addPeriodTasks_11 f1 p x 2 8 (nI (paF pN co x low c)) (nI n) h = some h' ∧ D_M_makeTasks_46 f2 20 x (nI (low + 1)) g = some g' ∧ Pr p c pe co cd tc bu B rO x h g A T K h' g' A' T' S' W' K' Q' ps' ∧ ∀ r, bt ps' r = (bt ps0 r || decide (1 ≤ r ∧ r ≤ c ∧ co r = x)) := by
  intro N
  have stop : ∀ low n f1 f2 (h g : XH) (A : Nat → Nat → Int32) (T : Nat) (S W : Nat → Nat) (K Q : Nat → Int32) (ps : Int32), low ≤ 1000 → 1001 - low < f1 → 1001 - low < f2 → St h g p c pe co A cd tc bu B T S W K Q ps rO → A 21 = pe → A 22 = co → (∀ r, bt ps r = (bt ps0 r || decide (1 ≤ r ∧ r ≤ c ∧ co r = x ∧ pN r ≤ low))) → paF pN co x low c = 0 → (∀ r, 1 ≤ r → r ≤ c → co r = x → pN r ≤ low) → ∃ h' g' A' T' S' W' K' Q' ps', D_P_addPeriodTasks_11 f1 p x 2 8 (nI (paF pN co x low c)) (nI n) h = some h' ∧ D_M_makeTasks_46 f2 20 x (nI (low + 1)) g = some g' ∧ Pr p c pe co cd tc bu B rO x h g A T K h' g' A' T' S' W' K' Q' ps' ∧ ∀ r, bt ps' r = (bt ps0 r || decide (1 ≤ r ∧ r ≤ c ∧ co r = x)) := by
    intro low n f1 f2 h g A T S W K Q ps hl hf1 hf2 H h21 h22 hb e1 e2
    refine ⟨h, g, A, T, S, W, K, Q, ps, ?_, ?_, Pr.refl H, fun r => ?_⟩
    · obtain ⟨f1, rfl⟩ : ∃ g, f1 = g + 1 := ⟨f1 - 1, by omega⟩
      simp only [D_P_addPeriodTasks_11, D_P_addPeriodTasks_52, e1]
      by_cases z : (24 : Int32) ≤ nI n
      · rw [if_pos z]
      · rw [if_neg z, if_pos (show nI 0 ≤ 0 by decide)]
    · obtain ⟨f2, rfl⟩ : ∃ g, f2 = g + 1 + (1000 - low) := ⟨f2 - 1 - (1000 - low), by omega⟩
      rw [mskip H.2.2.1 hc h21 h22 (1000 - low) (low + 1) (f2 + 1) (by omega) (fun m' a b => grp_zero hc hN (by omega) (fun r r1 r2 r3 z => by have := e2 r r1 r2 r3; omega)), show low + 1 + (1000 - low) = 1001 by omega]
      rfl
    · rw [hb r]
      congr 1
      exact decide_eq_decide.mpr ⟨fun z => ⟨z.1, z.2.1, z.2.2.1⟩, fun z => ⟨z.1, z.2.1, z.2.2, e2 r z.1 z.2.1 z.2.2⟩⟩
  induction N with
  | zero =>
    intro low n f1 f2 h g A T S W K Q ps hN0 hl hf1 hf2 hn H hg hu h24 h21 h22 hb
    rcases paF_spec pN co x low c with ⟨e1, e2⟩ | ⟨e1, -, -⟩
    · exact stop low n f1 f2 h g A T S W K Q ps hl hf1 hf2 H h21 h22 hb e1 e2
    · have := paF_le (x := x) (co := co) hN low c (Nat.le_refl c); omega
  | succ N ih =>
    intro low n f1 f2 h g A T S W K Q ps hN0 hl hf1 hf2 hn H hg hu h24 h21 h22 hb
    rcases paF_spec pN co x low c with ⟨e1, e2⟩ | ⟨e1, ⟨r0, q1, q2, q3, q4⟩, e3⟩
    · exact stop low n f1 f2 h g A T S W K Q ps hl hf1 hf2 H h21 h22 hb e1 e2
    · have ey := paF_le (x := x) (co := co) hN low c (Nat.le_refl c)
      have nx : X_U_periodAbove 2 x (nI (paF pN co x low c)) = fun h => X_U_periodAbove 2 x (nI (paF pN co x low c)) h := rfl
      generalize hy : paF pN co x low c = y at e1 q4 e3 ey ⊢
      clear nx
      have un0 : ∀ r, 1 ≤ r → r ≤ c → co r = x → low < pN r → bt ps r = false := fun r r1 r2 r3 r4 => by
        rw [hb r, h0 r r1 r2 r3, decide_eq_false (by omega)]; rfl
      have hT : T < 24 := H.room hc q1 q2 (un0 r0 q1 q2 q3 (by omega))
      have bL : ∀ i, i < 32 → bt (grpF pe co x (nI y) c) i = decide (1 ≤ i ∧ i ≤ c ∧ co i = x ∧ pe i = nI y) := fun i hi => grpF_bit pe co x (nI y) i hi c (by omega)
      have pr0 : pe r0 = nI y := by rw [(hN r0 q1 q2).1, q4]
      have hL0 : grpF pe co x (nI y) c ≠ 0 := fun z => by
        have := bL r0 (by omega)
        rw [z, b_0, decide_eq_true ⟨q1, q2, q3, pr0⟩] at this
        cases this
      have hLb : ∀ r, bt (grpF pe co x (nI y) c) r = true → 1 ≤ r ∧ r ≤ c ∧ co r = x ∧ pe r = nI y ∧ bt ps r = false := fun r hr => by
        rcases Nat.lt_or_ge r 32 with z | z
        · rw [bL r z, decide_eq_true_eq] at hr
          obtain ⟨a, b, d, e⟩ := hr
          refine ⟨a, b, d, e, un0 r a b d ?_⟩
          rw [(hN r a b).1] at e
          have := (nI_eq (by have := (hN r a b).2; omega) (by omega)).mp e
          omega
        · rw [b_big z] at hr; cases hr
      obtain ⟨h1, g1, A1, S1, W1, K1, Q1, ps1, a1, a2, a3, a4⟩ := addTask_pr (x := x) (y := nI y) (L := grpF pe co x (nI y) c) hc G hp H hg h24 hL0 hLb
      have hu1 : CU h1 c pe co sp rd wr := hu.fr (fun j j1 j2 => a3.2.2.2.2.2.1 j (Or.inl (by omega)))
      obtain ⟨f1, rfl⟩ : ∃ g, f1 = g + 1 := ⟨f1 - 1, by omega⟩
      obtain ⟨f2, rfl⟩ : ∃ g, f2 = g + 1 + (y - low - 1) := ⟨f2 - 1 - (y - low - 1), by omega⟩
      obtain ⟨h', g', A', T', S', W', K', Q', ps', b1, b2, b3, b4⟩ := ih y (n + 1) f1 f2 h1 g1 A1 (T + 1) S1 W1 K1 Q1 ps1 (by omega) ey (by omega) (by omega) (by omega) a3.1 (hg.fr (fun j j1 j2 => a3.2.2.2.2.2.1 j (Or.inl (by omega)))) hu1 (by rw [a3.2.1.1 24 (Or.inl (by decide)), h24]) (by rw [a3.2.1.1 21 (Or.inl (by decide)), h21]) (by rw [a3.2.1.1 22 (Or.inl (by decide)), h22]) (fun r => by
        rw [a4 r, hb r, Bool.or_assoc]
        congr 1
        rcases Nat.lt_or_ge r 32 with z | z
        · rw [bL r z, ← Bool.decide_or]
          refine decide_eq_decide.mpr ⟨?_, ?_⟩
          · rintro (w | w)
            · exact ⟨w.1, w.2.1, w.2.2.1, by omega⟩
            · refine ⟨w.1, w.2.1, w.2.2.1, ?_⟩
              have := w.2.2.2
              rw [(hN r w.1 w.2.1).1] at this
              have := (nI_eq (by have := (hN r w.1 w.2.1).2; omega) (by omega)).mp this
              omega
          · rintro ⟨w1, w2, w3, w4⟩
            rcases Nat.lt_or_ge low (pN r) with v | v
            · have := e3 r w1 w2 w3 v
              refine Or.inr ⟨w1, w2, w3, ?_⟩
              rw [(hN r w1 w2).1, show pN r = y by omega]
            · exact Or.inl ⟨w1, w2, w3, v⟩
        · rw [b_big z, Bool.or_false]
          exact decide_eq_decide.mpr ⟨fun w => by omega, fun w => by omega⟩)
      refine ⟨h', g', A', T', S', W', K', Q', ps', ?_, ?_, a3.trans b3, b4⟩
      · obtain ⟨tO, pO, rw, sO, CPh, -⟩ := H.2.1
        simp only [D_P_addPeriodTasks_11, hu.i, hu1.i, CPh.i, xchk_true, group_eq hu hc, xb1_some, a1, above_eq hu1 hc hN y ey, nI_1]
        rw [if_neg (show ¬ (24 : Int32) ≤ nI n from nI_ge (b := 24) (by omega) (by decide)), if_neg (nI_nle (by omega) (by omega))]
        exact b1
      · rw [mskip H.2.2.1 hc h21 h22 (y - low - 1) (low + 1) (f2 + 1) (by omega) (fun m' m1 m2 => grp_zero hc hN (by omega) (fun r r1 r2 r3 z => by have := e3 r r1 r2 r3 (by omega); omega)), show low + 1 + (y - low - 1) = y by omega]
        have w := with_eq H.2.2.1.mu hc x (nI y)
        rw [h21, h22] at w
        simp only [D_M_makeTasks_46, D_M_makeTasks_71, H.2.2.1.i, xchk_true, w, xb1_some, a2, nI_1]
        rw [if_neg (show ¬ (1000 : Int32) < nI y from nI_nlt (a := 1000) (by omega) (by decide)), if_neg hL0]
        exact b2
end Pe

/-! the tasks of one core -/
/-- from one state on to another: tasks of core x have come -/
def Pr (p c : Nat) (pe co : Nat → Int32) (cd : Int32) (tc : Nat) (bu : Int32) (B : Nat) (rO : Nat → Int32) (x : Int32) (h g : XH) (A : Nat → Nat → Int32) (T : Nat) (K : Nat → Int32) (h' g' : XH) (A' : Nat → Nat → Int32) (T' : Nat) (S' W' : Nat → Nat) (K' Q' : Nat → Int32) (ps' : Int32) : Prop :=
  St h' g' p c pe co A' cd tc bu B T' S' W' K' Q' ps' rO ∧ MB A A' ∧ T ≤ T' ∧ (∀ t, t ≤ T → K' t = K t) ∧ (∀ t, T < t → t ≤ T' → K' t = x) ∧ (∀ j, j < p ∨ p + 5 < j → h' j = h j) ∧ ∀ j, j < 29 ∨ 34 < j → g' j = g j
section Ev
variable {p c : Nat} {rO : Nat → Int32} {x : Int32} {pe co tb ab ly tl : Nat → Int32} {cd : Int32} {tc B : Nat} {bu tcx : Int32}
theorem Pr.trans {h g h1 g1 h2 g2 : XH} {A A1 A2 : Nat → Nat → Int32} {T T1 T2 : Nat} {K K1 K2 Q1 Q2 : Nat → Int32} {S1 S2 W1 W2 : Nat → Nat} {ps1 ps2 : Int32} (a : Pr p c pe co cd tc bu B rO x h g A T K h1 g1 A1 T1 S1 W1 K1 Q1 ps1) (b : Pr p c pe co cd tc bu B rO x h1 g1 A1 T1 K1 h2 g2 A2 T2 S2 W2 K2 Q2 ps2) : Pr p c pe co cd tc bu B rO x h g A T K h2 g2 A2 T2 S2 W2 K2 Q2 ps2 := by
  obtain ⟨a1, a2, a3, a4, a5, a6, a7⟩ := a
  obtain ⟨b1, b2, b3, b4, b5, b6, b7⟩ := b
  refine ⟨b1, a2.trans b2, by omega, fun t ht => by rw [b4 t (by omega), a4 t ht], fun t t1 t2 => ?_, fun j hj => by rw [b6 j hj, a6 j hj], fun j hj => by rw [b7 j hj, a7 j hj]⟩
  rcases Nat.lt_or_ge T1 t with q | q
  · exact b5 t q t2
  · rw [b4 t q]; exact a5 t t1 q
theorem Pr.refl {h g : XH} {A : Nat → Nat → Int32} {T : Nat} {S W : Nat → Nat} {K Q : Nat → Int32} {ps : Int32} (H : St h g p c pe co A cd tc bu B T S W K Q ps rO) : Pr p c pe co cd tc bu B rO x h g A T K h g A T S W K Q ps := ⟨H, MB.refl A, Nat.le_refl T, fun _ _ => rfl, fun t a b => by omega, fun _ _ => rfl, fun _ _ => rfl⟩
theorem addTask_pr {h g : XH} {A : Nat → Nat → Int32} {T : Nat} {S W : Nat → Nat} {K Q : Nat → Int32} {ps L y : Int32} (hc : c ≤ 24) (G : GI c tb ab) (hp : 13 ≤ p) (H : St h g p c pe co A cd tc bu B T S W K Q ps rO) (hg : CG h tb ab ly tl tcx) (h24 : A 24 = tb) (h0 : L ≠ 0) (hL : ∀ r, bt L r = true → 1 ≤ r ∧ r ≤ c ∧ co r = x ∧ pe r = y ∧ bt ps r = false) : ∃ h' g' A' S' W' K' Q' ps', X_P_addTask p y L 8 h = some h' ∧ X_M_addTask 20 x y L g = some g' ∧ Pr p c pe co cd tc bu B rO x h g A T K h' g' A' (T + 1) S' W' K' Q' ps' ∧ ∀ r, bt ps' r = (bt ps r || bt L r) := by
  obtain ⟨h', g', A', S', W', K', Q', ps', e1, e2, e3, e4, e5, e6, e7, e8, e9⟩ := addTask_eq (x := x) (y := y) hc G hp H hg h24 h0 hL
  refine ⟨h', g', A', S', W', K', Q', ps', e1, e2, ⟨e3, e4, by omega, e6, fun t a b => ?_, e8, e9⟩, e5⟩
  obtain rfl : t = T + 1 := by omega
  exact e7
theorem sh_ne {r : Nat} (hr : r < 32) : ((1 : Int32) <<< (nI r &&& 31)) ≠ 0 := fun e => by
  have := sh_bit (n := r) (x := r) hr
  rw [e, b_0, decide_eq_true rfl] at this
  cases this
theorem ev_tail (E : Int32) (h : XH) (hE : ∀ i, c < i → i < 32 → bt E i = false) : ∀ k i f, c < i → i + k = 25 → k < f → D_P_addEventTasks_11 f p 8 E (nI i) h = some h := by
  intro k
  induction k with
  | zero =>
    intro i f hi hk hf
    obtain ⟨f, rfl⟩ : ∃ g, f = g + 1 := ⟨f - 1, by omega⟩
    obtain rfl : i = 25 := by omega
    rfl
  | succ k ih =>
    intro i f hi hk hf
    obtain ⟨f, rfl⟩ : ∃ g, f = g + 1 := ⟨f - 1, by omega⟩
    simp only [D_P_addEventTasks_11, D_P_addEventTasks_38, isIn_eq _ i (show i < 32 by omega), xb1_some, w01i, nI_1]
    rw [if_neg (show ¬ (24 : Int32) < nI i from nI_nlt (a := 24) (by omega) (by omega)), if_pos (by rw [hE i hi (by omega)]; decide)]
    exact ih (i + 1) f (by omega) (by omega) (by omega)
theorem ev_loop (hc : c ≤ 24) (G : GI c tb ab) (hp : 13 ≤ p) (ps0 : Int32) (h0 : ∀ r, 1 ≤ r → r ≤ c → co r = x → bt ps0 r = false) : ∀ k i f1 f2 (h g : XH) (A : Nat → Nat → Int32) (T : Nat) (S W : Nat → Nat) (K Q : Nat → Int32) (ps : Int32), 1 ≤ i → i + k = c + 1 → 25 - i < f1 → k < f2 → St h g p c pe co A cd tc bu B T S W K Q ps rO → CG h tb ab ly tl tcx → A 24 = tb → A 21 = pe → A 22 = co → (∀ r, bt ps r = (bt ps0 r || decide (1 ≤ r ∧ r < i ∧ co r = x ∧ pe r = 0))) → ∃ h' g' A' T' S' W' K' Q' ps', D_P_addEventTasks_11 f1 p 8 (grpF pe co x 0 c) (nI i) h = some h' ∧ D_M_makeTasks_2 f2 20 x (nI i) g = D_M_makeTasks_46 5000 20 x 1 g' ∧ Pr p c pe co cd tc bu B rO x h g A T K h' g' A' T' S' W' K' Q' ps' ∧ ∀ r, bt ps' r = (bt ps0 r || decide (1 ≤ r ∧ r ≤ c ∧ co r = x ∧ pe r = 0)) := by
  have bE : ∀ i, i < 32 → bt (grpF pe co x 0 c) i = decide (1 ≤ i ∧ i ≤ c ∧ co i = x ∧ pe i = 0) := fun i hi => grpF_bit pe co x 0 i hi c (by omega)
  intro k
  induction k with
  | zero =>
    intro i f1 f2 h g A T S W K Q ps i1 hk hf1 hf2 H hg h24 h21 h22 hb
    obtain ⟨f2, rfl⟩ : ∃ g, f2 = g + 1 := ⟨f2 - 1, by omega⟩
    refine ⟨h, g, A, T, S, W, K, Q, ps, ev_tail (c := c) _ h (fun i hi h32 => by rw [bE i h32]; exact decide_eq_false (by omega)) (25 - i) i f1 (by omega) (by omega) hf1, ?_, Pr.refl H, fun r => ?_⟩
    · simp only [D_M_makeTasks_2, H.2.2.1.gc, xb1_some]
      rw [if_pos (nI_lt (by omega) (by omega))]
    · rw [hb r]
      congr 1
      exact decide_eq_decide.mpr ⟨fun z => ⟨z.1, by omega, z.2.2⟩, fun z => ⟨z.1, by omega, z.2.2⟩⟩
  | succ k ih =>
    intro i f1 f2 h g A T S W K Q ps i1 hk hf1 hf2 H hg h24 h21 h22 hb
    obtain ⟨f1, rfl⟩ : ∃ g, f1 = g + 1 := ⟨f1 - 1, by omega⟩
    obtain ⟨f2, rfl⟩ : ∃ g, f2 = g + 1 := ⟨f2 - 1, by omega⟩
    have M := H.2.2.1
    obtain ⟨tO, pO, rw, sO, CPh, -⟩ := H.2.1
    have x22 : xaI g 22 (nI i) = some (co i) := by rw [← h22]; exact xaI_at M.a22 (by omega) (by decide)
    have x21 : xaI g 21 (nI i) = some (pe i) := by rw [← h21]; exact xaI_at M.a21 (by omega) (by decide)
    simp only [D_P_addEventTasks_11, D_P_addEventTasks_38, D_M_makeTasks_2, D_M_makeTasks_38, isIn_eq _ i (show i < 32 by omega), xb1_some, w01i, bE i (by omega), decide_eq_true_eq, M.gc, M.g3, M.g2, x22, x21, M.i, CPh.i, xchk_true, nI_1]
    rw [if_neg (show ¬ (24 : Int32) < nI i from nI_nlt (a := 24) (by omega) (by omega)), if_neg (nI_nlt (show i ≤ c by omega) (by omega))]
    by_cases e : co i = x ∧ pe i = 0
    · rw [if_neg (fun z => z ⟨i1, by omega, e⟩), if_pos e.1, if_pos e.2]
      have npi : bt ps i = false := by
        rw [hb i, h0 i i1 (by omega) e.1, decide_eq_false (by omega)]; rfl
      obtain ⟨h1, g1, A1, S1, W1, K1, Q1, ps1, a1, a2, a3, a4⟩ := addTask_pr (x := x) (y := 0) (L := (1 : Int32) <<< (nI i &&& 31)) hc G hp H hg h24 (sh_ne (by omega)) (fun r hr => by
        rw [sh_bit (by omega), decide_eq_true_eq] at hr
        subst hr
        exact ⟨i1, by omega, e.1, e.2, npi⟩)
      obtain ⟨h', g', A', T', S', W', K', Q', ps', b1, b2, b3, b4⟩ := ih (i + 1) f1 f2 h1 g1 A1 (T + 1) S1 W1 K1 Q1 ps1 (by omega) (by omega) (by omega) (by omega) a3.1 (hg.fr (fun j j1 j2 => a3.2.2.2.2.2.1 j (Or.inl (by omega)))) (by rw [a3.2.1.1 24 (Or.inl (by decide)), h24]) (by rw [a3.2.1.1 21 (Or.inl (by decide)), h21]) (by rw [a3.2.1.1 22 (Or.inl (by decide)), h22]) (fun r => by
        rw [a4 r, hb r, sh_bit (by omega), Bool.or_assoc]
        congr 1
        by_cases z : r = i
        · subst z
          rw [decide_eq_true (rfl : r = r), Bool.or_true, decide_eq_true ⟨i1, by omega, e⟩]
        · rw [decide_eq_false z, Bool.or_false]
          exact decide_eq_decide.mpr ⟨fun w => ⟨w.1, by omega, w.2.2⟩, fun w => ⟨w.1, by omega, w.2.2⟩⟩)
      exact ⟨h', g', A', T', S', W', K', Q', ps', by rw [a1, xb1_some]; exact b1, by rw [a2, xb1_some]; exact b2, a3.trans b3, b4⟩
    · rw [if_pos (fun z => e z.2.2)]
      obtain ⟨h', g', A', T', S', W', K', Q', ps', b1, b2, b3, b4⟩ := ih (i + 1) f1 f2 h g A T S W K Q ps (by omega) (by omega) (by omega) (by omega) H hg h24 h21 h22 (fun r => by
        rw [hb r]
        congr 1
        refine decide_eq_decide.mpr ⟨fun w => ⟨w.1, by omega, w.2.2⟩, fun w => ⟨w.1, ?_, w.2.2⟩⟩
        have : r ≠ i := fun z => e (z ▸ w.2.2)
        omega)
      refine ⟨h', g', A', T', S', W', K', Q', ps', b1, ?_, b3, b4⟩
      by_cases e1 : co i = x
      · rw [if_pos e1, if_neg (fun z => e ⟨e1, z⟩)]; exact b2
      · rw [if_neg e1]; exact b2
end Ev

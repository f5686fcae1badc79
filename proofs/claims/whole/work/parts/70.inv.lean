/-! the state of class and reference together: A holds the rows by their cells' numbers -/
def CP (h : XH) (p T : Nat) (tO pO rO rw sO : Nat → Int32) : Prop := h p = .inr (3, [.int (nI T), .ref (p + 1), .ref (p + 2), .ref (p + 3), .ref (p + 4), .ref (p + 5)]) ∧ h (p + 1) = .inl (.int, (25, .inl tO)) ∧ h (p + 2) = .inl (.int, (25, .inl pO)) ∧ h (p + 3) = .inl (.int, (25, .inl rO)) ∧ h (p + 4) = .inl (.int, (24, .inl rw)) ∧ h (p + 5) = .inl (.int, (26, .inl sO))
def kfF (kc : Nat) : Nat → Option Nat := fun i => if i < kc then some (35 + 6 * i) else none
def CT (h : XH) (kc : Nat) (bl : Option Nat) : Prop := h 1 = .inr (0, [.ref 2, .ref 8, .ref 13, .int (nI kc), .ref 14, va_rf bl]) ∧ h 13 = .inl (.object "TaskBuild$Plan", (40, .inr (.inr (.inr (.inr (kfF kc))))))
def CM (h : XH) (A : Nat → Nat → Int32) (cd : Int32) (c tc : Nat) (bu : Int32) (B : Nat) : Prop := h 20 = mO cd c (nI tc) bu (nI B) ∧ h 21 = .inl (.int, (25, .inl (A 21))) ∧ h 22 = .inl (.int, (25, .inl (A 22))) ∧ h 23 = .inl (.int, (25, .inl (A 23))) ∧ h 24 = .inl (.int, (25, .inl (A 24))) ∧ h 25 = .inl (.int, (21, .inl (A 25))) ∧ h 26 = .inl (.int, (21, .inl (A 26))) ∧ h 27 = .inl (.int, (25, .inl (A 27))) ∧ h 28 = .inl (.int, (25, .inl (A 28))) ∧ h 29 = .inl (.int, (41, .inl (A 29))) ∧ h 30 = .inl (.int, (984, .inl (A 30))) ∧ h 31 = .inl (.int, (984, .inl (A 31))) ∧ h 32 = .inl (.int, (1025, .inl (A 32))) ∧ h 33 = .inl (.int, (984, .inl (A 33))) ∧ h 34 = .inl (.int, (25, .inl (A 34)))
def isPlan (kc p : Nat) : Prop := p = 14 ∨ ∃ i, i < kc ∧ p = 35 + 6 * i
def Cells (h : XH) (A : Nat → Nat → Int32) (PT : Nat → Nat) (cd : Int32) (c tc kc B : Nat) (bl : Option Nat) (bu : Int32) : Prop :=
  CT h kc bl ∧ CU h c (A 3) (A 4) (A 5) (A 6) (A 7) ∧ CG h (A 9) (A 10) (A 11) (A 12) (nI tc) ∧ CM h A cd c tc bu B ∧ ∀ p, isPlan kc p → CP h p (PT p) (A (p + 1)) (A (p + 2)) (A (p + 3)) (A (p + 4)) (A (p + 5))
/-- a build: T tasks; S t: where task t ends; W: the runnables one behind the other; K, Q: core and period of a task -/
def BW (c : Nat) (pe co : Nat → Int32) (T : Nat) (S W : Nat → Nat) (K Q : Nat → Int32) : Prop :=
  T ≤ 24 ∧ S 0 = 0 ∧ S T ≤ 24 ∧ (∀ t, t < T → S t < S (t + 1)) ∧ (∀ t i, t < T → S t ≤ i → i < S (t + 1) → 1 ≤ W i ∧ W i ≤ c ∧ co (W i) = K (t + 1) ∧ pe (W i) = Q (t + 1)) ∧ ∀ i j, i < S T → j < S T → W i = W j → i = j
/-- how many tasks from t on are of its core -/
def rkF (K : Nat → Int32) (T t : Nat) : Nat → Nat
  | 0 => 0
  | k + 1 => rkF K T t k + (if K (t + k) = K t then 1 else 0)
def PlanIs (T : Nat) (S W : Nat → Nat) (K Q : Nat → Int32) (P : Nat) (tO pO rO rw sO : Nat → Int32) : Prop :=
  P = T ∧ (∀ t, t ≤ T → sO (t + 1) = nI (S t)) ∧ (∀ i, i < S T → rw i = nI (W i)) ∧ (∀ t, t < T → pO (t + 1) = Q (t + 1)) ∧ (∀ t, 1 ≤ t → t ≤ T → rO t = nI (rkF K T t (T + 1 - t))) ∧ (∀ t i, t < T → S t ≤ i → i < S (t + 1) → tO (W i) = nI (t + 1)) ∧ ∀ r, r ≤ 24 → (∀ i, i < S T → W i ≠ r) → tO r = 0
def BlockIs (T : Nat) (S W : Nat → Nat) (K Q : Nat → Int32) (b : Nat) (tk ko po en ro : Nat → Int32) : Prop :=
  tk b = nI T ∧ (∀ t, t < T → ko (24 * b + t) = K (t + 1) ∧ po (24 * b + t) = Q (t + 1) ∧ en (25 * b + (t + 1)) = nI (S (t + 1))) ∧ ∀ i, i < S T → ro (24 * b + i) = nI (W i)
def RelU (A : Nat → Nat → Int32) (c : Nat) : Prop := c ≤ 24 ∧ A 21 = A 3 ∧ A 22 = A 4 ∧ A 23 = A 5 ∧ A 24 = A 9 ∧ ∀ r, 1 ≤ r → r ≤ c → (∃ k, 1 ≤ k ∧ k ≤ 4 ∧ A 4 r = nI k) ∧ (∃ k, k ≤ 1000 ∧ A 3 r = nI k) ∧ ∃ k, k ≤ 100000 ∧ A 5 r = nI k
def RelG (A : Nat → Nat → Int32) (c tc : Nat) : Prop := GI c (A 9) (A 10) ∧ tc ≤ 24 ∧ ∀ j, j < tc → A 12 j = A 27 j
def RelD (A : Nat → Nat → Int32) (c : Nat) : Prop := (∀ r d, r ≤ 24 → 1 ≤ d → d ≤ 20 → bt (A 6 r) d = bt (A 25 d) r ∧ bt (A 7 r) d = bt (A 26 d) r) ∧ (∀ r d, r ≤ 24 → (bt (A 6 r) d = true ∨ bt (A 7 r) d = true) → 1 ≤ d ∧ d ≤ 20 ∧ 1 ≤ r ∧ r ≤ c) ∧ ∀ r d, d ≤ 20 → (bt (A 25 d) r = true ∨ bt (A 26 d) r = true) → 1 ≤ d ∧ 1 ≤ r ∧ r ≤ c
def RelK (A : Nat → Nat → Int32) (PT : Nat → Nat) (c kc B : Nat) : Prop := kc = min B 40 ∧ ∀ i, i < kc → ∃ T S W K Q, BW c (A 3) (A 4) T S W K Q ∧ PlanIs T S W K Q (PT (35 + 6 * i)) (A (35 + 6 * i + 1)) (A (35 + 6 * i + 2)) (A (35 + 6 * i + 3)) (A (35 + 6 * i + 4)) (A (35 + 6 * i + 5)) ∧ BlockIs T S W K Q (i + 1) (A 29) (A 30) (A 31) (A 32) (A 33)
def RelB (A : Nat → Nat → Int32) (PT : Nat → Nat) (c kc : Nat) (bl : Option Nat) (bu : Int32) : Prop := (bl = none → bu = 0) ∧ ∀ q, bl = some q → bu = 1 ∧ isPlan kc q ∧ ∃ T S W K Q, BW c (A 3) (A 4) T S W K Q ∧ PlanIs T S W K Q (PT q) (A (q + 1)) (A (q + 2)) (A (q + 3)) (A (q + 4)) (A (q + 5)) ∧ BlockIs T S W K Q 0 (A 29) (A 30) (A 31) (A 32) (A 33) ∧ (∀ r, 1 ≤ r → r ≤ c → ∃ t i, t < T ∧ S t ≤ i ∧ i < S (t + 1) ∧ W i = r ∧ A 34 r = nI (t + 1))
/-- the unkept plan's row of tasks has nothing beyond what is there -/
def RelZ (A : Nat → Nat → Int32) (c : Nat) : Prop := A 19 1 = 0 ∧ ∀ r, r ≤ 24 → (r = 0 ∨ c < r) → A 15 r = 0
def Inv (m n : Nat) (h : XH) : Prop := ∃ (A : Nat → Nat → Int32) (PT : Nat → Nat) (cd : Int32) (c tc kc B : Nat) (bl : Option Nat) (bu : Int32), Cells h A PT cd c tc kc B bl bu ∧ n = 34 + 6 * kc ∧ B ≤ m ∧ RelU A c ∧ RelG A c tc ∧ RelD A c ∧ RelK A PT c kc B ∧ RelB A PT c kc bl bu ∧ RelZ A c
/-! frames -/
theorem CT.fr {h h' : XH} {kc : Nat} {bl : Option Nat} (H : CT h kc bl) (e : ∀ j, j = 1 ∨ j = 13 → h' j = h j) : CT h' kc bl := ⟨by rw [e 1 (Or.inl rfl)]; exact H.1, by rw [e 13 (Or.inr rfl)]; exact H.2⟩
theorem CU.fr {h h' : XH} {c : Nat} {pe co sp rd wr : Nat → Int32} (H : CU h c pe co sp rd wr) (e : ∀ j, 2 ≤ j → j ≤ 7 → h' j = h j) : CU h' c pe co sp rd wr := by
  obtain ⟨a0, a1, a2, a3, a4, a5⟩ := H
  exact ⟨by rw [e 2 (by decide) (by decide)]; exact a0, by rw [e 3 (by decide) (by decide)]; exact a1, by rw [e 4 (by decide) (by decide)]; exact a2, by rw [e 5 (by decide) (by decide)]; exact a3, by rw [e 6 (by decide) (by decide)]; exact a4, by rw [e 7 (by decide) (by decide)]; exact a5⟩
theorem CG.fr {h h' : XH} {tb ab ly tl : Nat → Int32} {tc : Int32} (H : CG h tb ab ly tl tc) (e : ∀ j, 8 ≤ j → j ≤ 12 → h' j = h j) : CG h' tb ab ly tl tc := by
  obtain ⟨a0, a1, a2, a3, a4⟩ := H
  exact ⟨by rw [e 8 (by decide) (by decide)]; exact a0, by rw [e 9 (by decide) (by decide)]; exact a1, by rw [e 10 (by decide) (by decide)]; exact a2, by rw [e 11 (by decide) (by decide)]; exact a3, by rw [e 12 (by decide) (by decide)]; exact a4⟩
theorem CM.fr {h h' : XH} {A : Nat → Nat → Int32} {cd : Int32} {c tc : Nat} {bu : Int32} {B : Nat} (H : CM h A cd c tc bu B) (e : ∀ j, 20 ≤ j → j ≤ 34 → h' j = h j) : CM h' A cd c tc bu B := by
  obtain ⟨a0, a1, a2, a3, a4, a5, a6, a7, a8, a9, b0, b1, b2, b3, b4⟩ := H
  exact ⟨by rw [e 20 (by decide) (by decide)]; exact a0, by rw [e 21 (by decide) (by decide)]; exact a1, by rw [e 22 (by decide) (by decide)]; exact a2, by rw [e 23 (by decide) (by decide)]; exact a3, by rw [e 24 (by decide) (by decide)]; exact a4, by rw [e 25 (by decide) (by decide)]; exact a5, by rw [e 26 (by decide) (by decide)]; exact a6, by rw [e 27 (by decide) (by decide)]; exact a7, by rw [e 28 (by decide) (by decide)]; exact a8, by rw [e 29 (by decide) (by decide)]; exact a9, by rw [e 30 (by decide) (by decide)]; exact b0, by rw [e 31 (by decide) (by decide)]; exact b1, by rw [e 32 (by decide) (by decide)]; exact b2, by rw [e 33 (by decide) (by decide)]; exact b3, by rw [e 34 (by decide) (by decide)]; exact b4⟩
/-- the same cells under other rows that agree there -/
theorem CM.co {h : XH} {A A' : Nat → Nat → Int32} {cd : Int32} {c tc : Nat} {bu : Int32} {B : Nat} (H : CM h A cd c tc bu B) (e : ∀ j, 21 ≤ j → j ≤ 34 → A' j = A j) : CM h A' cd c tc bu B := by
  obtain ⟨a0, a1, a2, a3, a4, a5, a6, a7, a8, a9, b0, b1, b2, b3, b4⟩ := H
  exact ⟨a0, by rw [e 21 (by decide) (by decide)]; exact a1, by rw [e 22 (by decide) (by decide)]; exact a2, by rw [e 23 (by decide) (by decide)]; exact a3, by rw [e 24 (by decide) (by decide)]; exact a4, by rw [e 25 (by decide) (by decide)]; exact a5, by rw [e 26 (by decide) (by decide)]; exact a6, by rw [e 27 (by decide) (by decide)]; exact a7, by rw [e 28 (by decide) (by decide)]; exact a8, by rw [e 29 (by decide) (by decide)]; exact a9, by rw [e 30 (by decide) (by decide)]; exact b0, by rw [e 31 (by decide) (by decide)]; exact b1, by rw [e 32 (by decide) (by decide)]; exact b2, by rw [e 33 (by decide) (by decide)]; exact b3, by rw [e 34 (by decide) (by decide)]; exact b4⟩
theorem CP.fr {h h' : XH} {p T : Nat} {tO pO rO rw sO : Nat → Int32} (H : CP h p T tO pO rO rw sO) (e : ∀ j, p ≤ j → j ≤ p + 5 → h' j = h j) : CP h' p T tO pO rO rw sO := by
  obtain ⟨a0, a1, a2, a3, a4, a5⟩ := H
  exact ⟨by rw [e p (by omega) (by omega)]; exact a0, by rw [e _ (by omega) (by omega)]; exact a1, by rw [e _ (by omega) (by omega)]; exact a2, by rw [e _ (by omega) (by omega)]; exact a3, by rw [e _ (by omega) (by omega)]; exact a4, by rw [e _ (by omega) (by omega)]; exact a5⟩
theorem isPlan.ge {kc p : Nat} (h : isPlan kc p) : (p = 14) ∨ 35 ≤ p := by
  rcases h with h | ⟨i, -, h⟩
  · exact Or.inl h
  · exact Or.inr (by omega)
/-- only the reference's code field is set -/
theorem CM.code {h : XH} {A : Nat → Nat → Int32} {cd : Int32} {c tc : Nat} {bu : Int32} {B : Nat} (H : CM h A cd c tc bu B) (c' tc' : Nat) (bu' : Int32) (B' : Nat) : CM (va_up h 20 (mO 0 c' (nI tc') bu' (nI B'))) A 0 c' tc' bu' B' := by
  obtain ⟨a0, a1, a2, a3, a4, a5, a6, a7, a8, a9, b0, b1, b2, b3, b4⟩ := H
  exact ⟨up_s, by rw [up_n (by decide)]; exact a1, by rw [up_n (by decide)]; exact a2, by rw [up_n (by decide)]; exact a3, by rw [up_n (by decide)]; exact a4, by rw [up_n (by decide)]; exact a5, by rw [up_n (by decide)]; exact a6, by rw [up_n (by decide)]; exact a7, by rw [up_n (by decide)]; exact a8, by rw [up_n (by decide)]; exact a9, by rw [up_n (by decide)]; exact b0, by rw [up_n (by decide)]; exact b1, by rw [up_n (by decide)]; exact b2, by rw [up_n (by decide)]; exact b3, by rw [up_n (by decide)]; exact b4⟩
theorem Cells.code {h : XH} {A : Nat → Nat → Int32} {PT : Nat → Nat} {cd : Int32} {c tc kc B : Nat} {bl : Option Nat} {bu : Int32} (H : Cells h A PT cd c tc kc B bl bu) : Cells (va_up h 20 (mO 0 c (nI tc) bu (nI B))) A PT 0 c tc kc B bl bu := by
  obtain ⟨H1, H2, H3, H4, H5⟩ := H
  exact ⟨H1.fr (fun j hj => up_n (by omega)), H2.fr (fun j h1 h2 => up_n (by omega)), H3.fr (fun j h1 h2 => up_n (by omega)), H4.code c tc bu B, fun p hp => (H5 p hp).fr (fun j h1 h2 => up_n (by rcases hp.ge with q | q <;> omega))⟩
section Gt
variable {h : XH} {A : Nat → Nat → Int32} {PT : Nat → Nat} {cd : Int32} {c tc kc B : Nat} {bl : Option Nat} {bu : Int32}
theorem CT.u (H : CT h kc bl) : xgR h 0 0 1 = some 2 := xgR_at H.1 rfl
theorem CT.g (H : CT h kc bl) : xgR h 0 1 1 = some 8 := xgR_at H.1 rfl
theorem CT.k (H : CT h kc bl) : xgR h 0 2 1 = some 13 := xgR_at H.1 rfl
theorem CT.n (H : CT h kc bl) : xgI h 0 3 1 = some (nI kc) := xgI_at H.1 rfl
theorem CT.un (H : CT h kc bl) : xgR h 0 4 1 = some 14 := xgR_at H.1 rfl
theorem CT.b (H : CT h kc bl) : xgQ h 0 5 1 = some bl := xgQ_at H.1 rfl
theorem CT.i (H : CT h kc bl) : xis h 0 1 = true := xis_at H.1
theorem CM.i (H : CM h A cd c tc bu B) : xis h 4 20 = true := xis_at H.1
theorem CM.code0 (H : CM h A cd c tc bu B) : xp h 4 0 20 (.int (0 : Int32)) = some (va_up h 20 (mO 0 c (nI tc) bu (nI B))) := xp_at H.1 (show 0 < 19 by decide)
theorem CM.gc (H : CM h A cd c tc bu B) : xgI h 4 1 20 = some (nI c) := xgI_at H.1 rfl
theorem CM.grs (H : CM h A cd c tc bu B) : xgI h 4 8 20 = some (nI tc) := xgI_at H.1 rfl
theorem CM.gbu (H : CM h A cd c tc bu B) : xgI h 4 11 20 = some bu := xgI_at H.1 rfl
theorem CM.gbs (H : CM h A cd c tc bu B) : xgI h 4 12 20 = some (nI B) := xgI_at H.1 rfl
theorem CM.g2 (H : CM h A cd c tc bu B) : xgR h 4 2 20 = some 21 := xgR_at H.1 rfl
theorem CM.g3 (H : CM h A cd c tc bu B) : xgR h 4 3 20 = some 22 := xgR_at H.1 rfl
theorem CM.g4 (H : CM h A cd c tc bu B) : xgR h 4 4 20 = some 23 := xgR_at H.1 rfl
theorem CM.g5 (H : CM h A cd c tc bu B) : xgR h 4 5 20 = some 24 := xgR_at H.1 rfl
theorem CM.g6 (H : CM h A cd c tc bu B) : xgR h 4 6 20 = some 25 := xgR_at H.1 rfl
theorem CM.g7 (H : CM h A cd c tc bu B) : xgR h 4 7 20 = some 26 := xgR_at H.1 rfl
theorem CM.g9 (H : CM h A cd c tc bu B) : xgR h 4 9 20 = some 27 := xgR_at H.1 rfl
theorem CM.g10 (H : CM h A cd c tc bu B) : xgR h 4 10 20 = some 28 := xgR_at H.1 rfl
theorem CM.g13 (H : CM h A cd c tc bu B) : xgR h 4 13 20 = some 29 := xgR_at H.1 rfl
theorem CM.g14 (H : CM h A cd c tc bu B) : xgR h 4 14 20 = some 30 := xgR_at H.1 rfl
theorem CM.g15 (H : CM h A cd c tc bu B) : xgR h 4 15 20 = some 31 := xgR_at H.1 rfl
theorem CM.g16 (H : CM h A cd c tc bu B) : xgR h 4 16 20 = some 32 := xgR_at H.1 rfl
theorem CM.g17 (H : CM h A cd c tc bu B) : xgR h 4 17 20 = some 33 := xgR_at H.1 rfl
theorem CM.g18 (H : CM h A cd c tc bu B) : xgR h 4 18 20 = some 34 := xgR_at H.1 rfl
theorem CM.a21 (H : CM h A cd c tc bu B) : h 21 = .inl (.int, (25, .inl (A 21))) := H.2.1
theorem CM.a22 (H : CM h A cd c tc bu B) : h 22 = .inl (.int, (25, .inl (A 22))) := H.2.2.1
theorem CM.a23 (H : CM h A cd c tc bu B) : h 23 = .inl (.int, (25, .inl (A 23))) := H.2.2.2.1
theorem CM.a24 (H : CM h A cd c tc bu B) : h 24 = .inl (.int, (25, .inl (A 24))) := H.2.2.2.2.1
theorem CM.a25 (H : CM h A cd c tc bu B) : h 25 = .inl (.int, (21, .inl (A 25))) := H.2.2.2.2.2.1
theorem CM.a26 (H : CM h A cd c tc bu B) : h 26 = .inl (.int, (21, .inl (A 26))) := H.2.2.2.2.2.2.1
theorem CM.a27 (H : CM h A cd c tc bu B) : h 27 = .inl (.int, (25, .inl (A 27))) := H.2.2.2.2.2.2.2.1
theorem CM.a28 (H : CM h A cd c tc bu B) : h 28 = .inl (.int, (25, .inl (A 28))) := H.2.2.2.2.2.2.2.2.1
theorem CM.a29 (H : CM h A cd c tc bu B) : h 29 = .inl (.int, (41, .inl (A 29))) := H.2.2.2.2.2.2.2.2.2.1
theorem CM.a30 (H : CM h A cd c tc bu B) : h 30 = .inl (.int, (984, .inl (A 30))) := H.2.2.2.2.2.2.2.2.2.2.1
theorem CM.a31 (H : CM h A cd c tc bu B) : h 31 = .inl (.int, (984, .inl (A 31))) := H.2.2.2.2.2.2.2.2.2.2.2.1
theorem CM.a32 (H : CM h A cd c tc bu B) : h 32 = .inl (.int, (1025, .inl (A 32))) := H.2.2.2.2.2.2.2.2.2.2.2.2.1
theorem CM.a33 (H : CM h A cd c tc bu B) : h 33 = .inl (.int, (984, .inl (A 33))) := H.2.2.2.2.2.2.2.2.2.2.2.2.2.1
theorem CM.a34 (H : CM h A cd c tc bu B) : h 34 = .inl (.int, (25, .inl (A 34))) := H.2.2.2.2.2.2.2.2.2.2.2.2.2.2
theorem CM.mu (H : CM h A cd c tc bu B) : MU h c (A 21) (A 22) (A 23) := ⟨⟨cd, _, bu, _, H.1⟩, H.a21, H.a22, H.a23⟩
theorem CM.mg (H : CM h A cd c tc bu B) : MG h c (A 24) (A 28) := ⟨⟨cd, _, bu, _, H.1⟩, H.a24, H.a28⟩
end Gt
section Pt
variable {h : XH} {p T : Nat} {tO pO rO rw sO : Nat → Int32}
theorem CP.cn (H : CP h p T tO pO rO rw sO) : xgI h 3 0 p = some (nI T) := xgI_at H.1 rfl
theorem CP.ta (H : CP h p T tO pO rO rw sO) : xgR h 3 1 p = some (p + 1) := xgR_at H.1 rfl
theorem CP.pe (H : CP h p T tO pO rO rw sO) : xgR h 3 2 p = some (p + 2) := xgR_at H.1 rfl
theorem CP.ra (H : CP h p T tO pO rO rw sO) : xgR h 3 3 p = some (p + 3) := xgR_at H.1 rfl
theorem CP.ro (H : CP h p T tO pO rO rw sO) : xgR h 3 4 p = some (p + 4) := xgR_at H.1 rfl
theorem CP.st (H : CP h p T tO pO rO rw sO) : xgR h 3 5 p = some (p + 5) := xgR_at H.1 rfl
theorem CP.i (H : CP h p T tO pO rO rw sO) : xis h 3 p = true := xis_at H.1
end Pt
/-- an int is below 0, or a number -/
theorem i_cases (x : Int32) : x < 0 ∨ ∃ j : Nat, j < 2 ^ 31 ∧ x = nI j := by
  by_cases h : x < 0
  · exact Or.inl h
  · exact Or.inr (nI_of h)
theorem i_neg {x : Int32} (h : x < 0) (n : Nat) (hn : n < 2 ^ 31) : ¬ nI n ≤ x := by
  rw [Int32.le_iff_toInt_le, nI_toInt hn]
  rw [Int32.lt_iff_toInt_lt, Int32.toInt_zero] at h
  omega

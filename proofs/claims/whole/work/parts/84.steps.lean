/-! one task is made: its runnables one by one -/
def un (f : Nat → Nat) (k v : Nat) : Nat → Nat := fun j => if j = k then v else f j
theorem un_s {f : Nat → Nat} {k v : Nat} : un f k v k = v := if_pos rfl
theorem un_n {f : Nat → Nat} {k v j : Nat} (h : j ≠ k) : un f k v j = f j := if_neg h
def ua (A : Nat → Nat → Int32) (k : Nat) (f : Nat → Int32) : Nat → Nat → Int32 := fun j => if j = k then f else A j
theorem ua_s {A : Nat → Nat → Int32} {k : Nat} {f : Nat → Int32} : ua A k f k = f := if_pos rfl
theorem ua_n {A : Nat → Nat → Int32} {k j : Nat} {f : Nat → Int32} (h : j ≠ k) : ua A k f j = A j := if_neg h
theorem CM.u29 {h : XH} {A : Nat → Nat → Int32} {cd : Int32} {c tc : Nat} {bu : Int32} {B : Nat} (H : CM h A cd c tc bu B) (f : Nat → Int32) : CM (va_up h 29 (.inl (.int, (41, .inl f)))) (ua A 29 f) cd c tc bu B := ⟨by rw [up_n (by decide)]; exact H.1, by rw [up_n (by decide), ua_n (by decide)]; exact H.a21, by rw [up_n (by decide), ua_n (by decide)]; exact H.a22, by rw [up_n (by decide), ua_n (by decide)]; exact H.a23, by rw [up_n (by decide), ua_n (by decide)]; exact H.a24, by rw [up_n (by decide), ua_n (by decide)]; exact H.a25, by rw [up_n (by decide), ua_n (by decide)]; exact H.a26, by rw [up_n (by decide), ua_n (by decide)]; exact H.a27, by rw [up_n (by decide), ua_n (by decide)]; exact H.a28, by rw [ua_s]; exact up_s, by rw [up_n (by decide), ua_n (by decide)]; exact H.a30, by rw [up_n (by decide), ua_n (by decide)]; exact H.a31, by rw [up_n (by decide), ua_n (by decide)]; exact H.a32, by rw [up_n (by decide), ua_n (by decide)]; exact H.a33, by rw [up_n (by decide), ua_n (by decide)]; exact H.a34⟩
theorem CM.u30 {h : XH} {A : Nat → Nat → Int32} {cd : Int32} {c tc : Nat} {bu : Int32} {B : Nat} (H : CM h A cd c tc bu B) (f : Nat → Int32) : CM (va_up h 30 (.inl (.int, (984, .inl f)))) (ua A 30 f) cd c tc bu B := ⟨by rw [up_n (by decide)]; exact H.1, by rw [up_n (by decide), ua_n (by decide)]; exact H.a21, by rw [up_n (by decide), ua_n (by decide)]; exact H.a22, by rw [up_n (by decide), ua_n (by decide)]; exact H.a23, by rw [up_n (by decide), ua_n (by decide)]; exact H.a24, by rw [up_n (by decide), ua_n (by decide)]; exact H.a25, by rw [up_n (by decide), ua_n (by decide)]; exact H.a26, by rw [up_n (by decide), ua_n (by decide)]; exact H.a27, by rw [up_n (by decide), ua_n (by decide)]; exact H.a28, by rw [up_n (by decide), ua_n (by decide)]; exact H.a29, by rw [ua_s]; exact up_s, by rw [up_n (by decide), ua_n (by decide)]; exact H.a31, by rw [up_n (by decide), ua_n (by decide)]; exact H.a32, by rw [up_n (by decide), ua_n (by decide)]; exact H.a33, by rw [up_n (by decide), ua_n (by decide)]; exact H.a34⟩
theorem CM.u31 {h : XH} {A : Nat → Nat → Int32} {cd : Int32} {c tc : Nat} {bu : Int32} {B : Nat} (H : CM h A cd c tc bu B) (f : Nat → Int32) : CM (va_up h 31 (.inl (.int, (984, .inl f)))) (ua A 31 f) cd c tc bu B := ⟨by rw [up_n (by decide)]; exact H.1, by rw [up_n (by decide), ua_n (by decide)]; exact H.a21, by rw [up_n (by decide), ua_n (by decide)]; exact H.a22, by rw [up_n (by decide), ua_n (by decide)]; exact H.a23, by rw [up_n (by decide), ua_n (by decide)]; exact H.a24, by rw [up_n (by decide), ua_n (by decide)]; exact H.a25, by rw [up_n (by decide), ua_n (by decide)]; exact H.a26, by rw [up_n (by decide), ua_n (by decide)]; exact H.a27, by rw [up_n (by decide), ua_n (by decide)]; exact H.a28, by rw [up_n (by decide), ua_n (by decide)]; exact H.a29, by rw [up_n (by decide), ua_n (by decide)]; exact H.a30, by rw [ua_s]; exact up_s, by rw [up_n (by decide), ua_n (by decide)]; exact H.a32, by rw [up_n (by decide), ua_n (by decide)]; exact H.a33, by rw [up_n (by decide), ua_n (by decide)]; exact H.a34⟩
theorem CM.u32 {h : XH} {A : Nat → Nat → Int32} {cd : Int32} {c tc : Nat} {bu : Int32} {B : Nat} (H : CM h A cd c tc bu B) (f : Nat → Int32) : CM (va_up h 32 (.inl (.int, (1025, .inl f)))) (ua A 32 f) cd c tc bu B := ⟨by rw [up_n (by decide)]; exact H.1, by rw [up_n (by decide), ua_n (by decide)]; exact H.a21, by rw [up_n (by decide), ua_n (by decide)]; exact H.a22, by rw [up_n (by decide), ua_n (by decide)]; exact H.a23, by rw [up_n (by decide), ua_n (by decide)]; exact H.a24, by rw [up_n (by decide), ua_n (by decide)]; exact H.a25, by rw [up_n (by decide), ua_n (by decide)]; exact H.a26, by rw [up_n (by decide), ua_n (by decide)]; exact H.a27, by rw [up_n (by decide), ua_n (by decide)]; exact H.a28, by rw [up_n (by decide), ua_n (by decide)]; exact H.a29, by rw [up_n (by decide), ua_n (by decide)]; exact H.a30, by rw [up_n (by decide), ua_n (by decide)]; exact H.a31, by rw [ua_s]; exact up_s, by rw [up_n (by decide), ua_n (by decide)]; exact H.a33, by rw [up_n (by decide), ua_n (by decide)]; exact H.a34⟩
theorem CM.u33 {h : XH} {A : Nat → Nat → Int32} {cd : Int32} {c tc : Nat} {bu : Int32} {B : Nat} (H : CM h A cd c tc bu B) (f : Nat → Int32) : CM (va_up h 33 (.inl (.int, (984, .inl f)))) (ua A 33 f) cd c tc bu B := ⟨by rw [up_n (by decide)]; exact H.1, by rw [up_n (by decide), ua_n (by decide)]; exact H.a21, by rw [up_n (by decide), ua_n (by decide)]; exact H.a22, by rw [up_n (by decide), ua_n (by decide)]; exact H.a23, by rw [up_n (by decide), ua_n (by decide)]; exact H.a24, by rw [up_n (by decide), ua_n (by decide)]; exact H.a25, by rw [up_n (by decide), ua_n (by decide)]; exact H.a26, by rw [up_n (by decide), ua_n (by decide)]; exact H.a27, by rw [up_n (by decide), ua_n (by decide)]; exact H.a28, by rw [up_n (by decide), ua_n (by decide)]; exact H.a29, by rw [up_n (by decide), ua_n (by decide)]; exact H.a30, by rw [up_n (by decide), ua_n (by decide)]; exact H.a31, by rw [up_n (by decide), ua_n (by decide)]; exact H.a32, by rw [ua_s]; exact up_s, by rw [up_n (by decide), ua_n (by decide)]; exact H.a34⟩
theorem CM.u34 {h : XH} {A : Nat → Nat → Int32} {cd : Int32} {c tc : Nat} {bu : Int32} {B : Nat} (H : CM h A cd c tc bu B) (f : Nat → Int32) : CM (va_up h 34 (.inl (.int, (25, .inl f)))) (ua A 34 f) cd c tc bu B := ⟨by rw [up_n (by decide)]; exact H.1, by rw [up_n (by decide), ua_n (by decide)]; exact H.a21, by rw [up_n (by decide), ua_n (by decide)]; exact H.a22, by rw [up_n (by decide), ua_n (by decide)]; exact H.a23, by rw [up_n (by decide), ua_n (by decide)]; exact H.a24, by rw [up_n (by decide), ua_n (by decide)]; exact H.a25, by rw [up_n (by decide), ua_n (by decide)]; exact H.a26, by rw [up_n (by decide), ua_n (by decide)]; exact H.a27, by rw [up_n (by decide), ua_n (by decide)]; exact H.a28, by rw [up_n (by decide), ua_n (by decide)]; exact H.a29, by rw [up_n (by decide), ua_n (by decide)]; exact H.a30, by rw [up_n (by decide), ua_n (by decide)]; exact H.a31, by rw [up_n (by decide), ua_n (by decide)]; exact H.a32, by rw [up_n (by decide), ua_n (by decide)]; exact H.a33, by rw [ua_s]; exact up_s⟩
/-- q places are taken: T tasks, and from S T on those of a task of core x and period y; ps: who has a place -/
def BP (c : Nat) (pe co : Nat → Int32) (T : Nat) (S W : Nat → Nat) (K Q : Nat → Int32) (q : Nat) (x y : Int32) (ps : Int32) : Prop :=
  BW c pe co T S W K Q ∧ S T ≤ q ∧ q ≤ cntB ps 24 ∧ (∀ i, S T ≤ i → i < q → 1 ≤ W i ∧ W i ≤ c ∧ co (W i) = x ∧ pe (W i) = y) ∧ (∀ i j, i < q → j < q → W i = W j → i = j) ∧ ∀ r, bt ps r = true ↔ ∃ i, i < q ∧ W i = r
section Bp
variable {c : Nat} {pe co : Nat → Int32} {T : Nat} {S W : Nat → Nat} {K Q : Nat → Int32} {q : Nat} {x y : Int32} {ps : Int32}
theorem BW.setW (H : BW c pe co T S W K Q) {W' : Nat → Nat} (e : ∀ i, i < S T → W' i = W i) : BW c pe co T S W' K Q := by
  obtain ⟨h1, h2, h3, h4, h5, h6⟩ := H
  have mo := BW.mono ⟨h1, h2, h3, h4, h5, h6⟩
  refine ⟨h1, h2, h3, h4, fun t i a b d => ?_, fun i j a b d => ?_⟩
  · rw [e i (by have := mo (t + 1) T (by omega) (Nat.le_refl T); omega)]
    exact h5 t i a b d
  · rw [e i a, e j b] at d
    exact h6 i j a b d
theorem BP.step (H : BP c pe co T S W K Q q x y ps) (hc : c ≤ 24) {r : Nat} (r1 : 1 ≤ r) (r2 : r ≤ c) (r3 : co r = x) (r4 : pe r = y) (hp : bt ps r = false) : q + 1 ≤ 24 ∧ BP c pe co T S (un W q r) K Q (q + 1) x y (ps ||| ((1 : Int32) <<< (nI r &&& 31))) := by
  obtain ⟨h1, h2, h3, h4, h5, h6⟩ := H
  have hp' : ¬ bt ps r = true := by rw [hp]; decide
  have c1 := cntB_full 24 r r1 (by omega) hp'
  have c2 : cntB ps 24 < cntB (ps ||| ((1 : Int32) <<< (nI r &&& 31))) 24 := cntB_lt 24 r (fun i _ _ hi => by rw [b_or, hi, Bool.true_or]) r1 (by omega) hp' (by rw [b_or, sh_bit (by omega), decide_eq_true rfl, Bool.or_true])
  have np : ∀ i, i < q → W i ≠ r := fun i hi e => hp' ((h6 r).mpr ⟨i, hi, e⟩)
  refine ⟨by omega, h1.setW (fun i hi => un_n (by omega)), by omega, by omega, fun i a b => ?_, fun i j a b d => ?_, fun r' => ?_⟩
  · by_cases e : i = q
    · rw [e, un_s]; exact ⟨r1, r2, r3, r4⟩
    · rw [un_n e]; exact h4 i a (by omega)
  · by_cases e : i = q
    · by_cases e' : j = q
      · omega
      · rw [e, un_s, un_n e'] at d
        exact absurd d.symm (np j (by omega))
    · by_cases e' : j = q
      · rw [e', un_s, un_n e] at d
        exact absurd d (np i (by omega))
      · rw [un_n e, un_n e'] at d
        exact h5 i j (by omega) (by omega) d
  · rw [b_or, Bool.or_eq_true, sh_bit (by omega), decide_eq_true_eq, h6]
    constructor
    · rintro (⟨i, a, b⟩ | e)
      · exact ⟨i, by omega, by rw [un_n (by omega)]; exact b⟩
      · exact ⟨q, by omega, by rw [un_s, e]⟩
    · rintro ⟨i, a, b⟩
      by_cases e : i = q
      · rw [e, un_s] at b; exact Or.inr b.symm
      · rw [un_n e] at b; exact Or.inl ⟨i, by omega, b⟩
theorem BP.fin (H : BP c pe co T S W K Q q x y ps) (hT : T < 24) (hq : S T < q) : BP c pe co (T + 1) (un S (T + 1) q) W (upd K (T + 1) x) (upd Q (T + 1) y) q x y ps := by
  obtain ⟨⟨g1, g2, g3, g4, g5, g6⟩, h2, h3, h4, h5, h6⟩ := H
  have hq24 : q ≤ 24 := Nat.le_trans h3 (cntB_le ps 24)
  refine ⟨⟨by omega, by rw [un_n (by omega)]; exact g2, by rw [un_s]; exact hq24, fun t ht => ?_, fun t i a b d => ?_, by rw [un_s]; exact h5⟩, by rw [un_s]; exact Nat.le_refl q, h3, fun i a b => ?_, h5, h6⟩
  · by_cases e : t = T
    · rw [e, un_s, un_n (by omega)]; exact hq
    · rw [un_n (by omega), un_n (by omega)]; exact g4 t (by omega)
  · by_cases e : t = T
    · rw [e, un_s] at d
      rw [e, un_n (by omega)] at b
      rw [e, upd_s, upd_s]
      exact h4 i b d
    · rw [un_n (by omega)] at b d
      rw [upd_n (by omega), upd_n (by omega)]
      exact g5 t i (by omega) b d
  · rw [un_s] at a; omega
end Bp
/-- the class's plan p in that state; N: its number of tasks -/
def PC (h : XH) (p c N T : Nat) (S W : Nat → Nat) (Q : Nat → Int32) (q : Nat) (y : Int32) (rO : Nat → Int32) : Prop :=
  ∃ tO pO rw sO, CP h p N tO pO rO rw sO ∧ (∀ t, t ≤ T → sO (t + 1) = nI (S t)) ∧ (∀ i, i < q → rw i = nI (W i)) ∧ (∀ t, t < T → pO (t + 1) = Q (t + 1)) ∧ (N = T + 1 → pO (T + 1) = y) ∧ (∀ t i, t < T → S t ≤ i → i < S (t + 1) → tO (W i) = nI (t + 1)) ∧ (∀ i, S T ≤ i → i < q → tO (W i) = nI (T + 1)) ∧ ∀ r, r ≤ 24 → (r = 0 ∨ c < r) → tO r = 0
/-- the reference's rows in that state -/
def MC (A : Nat → Nat → Int32) (T : Nat) (S W : Nat → Nat) (K Q : Nat → Int32) (q : Nat) : Prop :=
  BlockIs T S W K Q 0 (A 29) (A 30) (A 31) (A 32) (A 33) ∧ (∀ i, i < q → A 33 i = nI (W i)) ∧ (∀ t i, t < T → S t ≤ i → i < S (t + 1) → A 34 (W i) = nI (t + 1)) ∧ ∀ i, S T ≤ i → i < q → A 34 (W i) = nI (T + 1)
/-- what the reference's making of tasks leaves -/
def MB (A A' : Nat → Nat → Int32) : Prop := (∀ j, j < 29 ∨ 34 < j → A' j = A j) ∧ (∀ b, 1 ≤ b → A' 29 b = A 29 b) ∧ (∀ i, 24 ≤ i → A' 30 i = A 30 i ∧ A' 31 i = A 31 i ∧ A' 33 i = A 33 i) ∧ ∀ i, 25 ≤ i → A' 32 i = A 32 i
theorem MB.refl (A : Nat → Nat → Int32) : MB A A := ⟨fun _ _ => rfl, fun _ _ => rfl, fun _ _ => ⟨rfl, rfl, rfl⟩, fun _ _ => rfl⟩
theorem MB.trans {A A' A'' : Nat → Nat → Int32} (h1 : MB A A') (h2 : MB A' A'') : MB A A'' := ⟨fun j hj => by rw [h2.1 j hj, h1.1 j hj], fun b hb => by rw [h2.2.1 b hb, h1.2.1 b hb], fun i hi => by
  obtain ⟨a, b, d⟩ := h1.2.2.1 i hi
  obtain ⟨a', b', d'⟩ := h2.2.2.1 i hi
  exact ⟨by rw [a', a], by rw [b', b], by rw [d', d]⟩, fun i hi => by rw [h2.2.2.2 i hi, h1.2.2.2 i hi]⟩

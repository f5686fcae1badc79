section Tk
variable {p c T : Nat} {S : Nat → Nat} {K Q rO : Nat → Int32} {x y : Int32} {pe co tb ab ly tl : Nat → Int32} {cd : Int32} {tc B : Nat} {bu tcx : Int32}
theorem bt_not {L : Int32} {r : Nat} (hr : r < 32) (i : Nat) : bt (L &&& (((1 : Int32) <<< (nI r &&& 31)) ^^^ (-1))) i = (bt L i && !decide (i = r)) := by
  rcases Nat.lt_or_ge i 32 with h | h
  · exact b_not L r hr h
  · rw [b_big h, b_big h, Bool.false_and]
theorem fill_eq (hc : c ≤ 24) (hT : T < 24) (G : GI c tb ab) (hp : 13 ≤ p) : ∀ (n : Nat) (L : Int32) (q : Nat) (W : Nat → Nat) (ps : Int32) (h g : XH) (A : Nat → Nat → Int32) (f : Nat), cntB L 24 ≤ n → n < f → (∀ r, bt L r = true → 1 ≤ r ∧ r ≤ c ∧ co r = x ∧ pe r = y ∧ bt ps r = false) → BP c pe co T S W K Q q x y ps → PC h p c (T + 1) T S W Q q y rO → CG h tb ab ly tl tcx → CM g A cd c tc bu B → A 24 = tb → MC A T S W K Q q → (S T < q ∨ L ≠ 0) → ∃ h' g' A' S' W' K' Q' ps', D_P_addTask_44 f p 8 L (nI q) h = some h' ∧ D_M_addTask_29 f 20 x y (nI T) (nI q) L g = some g' ∧ BP c pe co (T + 1) S' W' K' Q' (S' (T + 1)) x y ps' ∧ PC h' p c (T + 1) (T + 1) S' W' Q' (S' (T + 1)) y rO ∧ CM g' A' cd c tc bu B ∧ MB A A' ∧ MC A' (T + 1) S' W' K' Q' (S' (T + 1)) ∧ (∀ r, bt ps' r = (bt ps r || bt L r)) ∧ (∀ t, t ≤ T → K' t = K t) ∧ K' (T + 1) = x ∧ (∀ j, j < p ∨ p + 5 < j → h' j = h j) ∧ ∀ j, j < 29 ∨ 34 < j → g' j = g j := by
  have fin : ∀ (q : Nat) (W : Nat → Nat) (ps : Int32) (h g : XH) (A : Nat → Nat → Int32) (f : Nat), BP c pe co T S W K Q q x y ps → PC h p c (T + 1) T S W Q q y rO → CM g A cd c tc bu B → MC A T S W K Q q → S T < q → ∃ h' g' A' S' W' K' Q' ps', D_P_addTask_44 (f + 1) p 8 0 (nI q) h = some h' ∧ D_M_addTask_29 (f + 1) 20 x y (nI T) (nI q) 0 g = some g' ∧ BP c pe co (T + 1) S' W' K' Q' (S' (T + 1)) x y ps' ∧ PC h' p c (T + 1) (T + 1) S' W' Q' (S' (T + 1)) y rO ∧ CM g' A' cd c tc bu B ∧ MB A A' ∧ MC A' (T + 1) S' W' K' Q' (S' (T + 1)) ∧ (∀ r, bt ps' r = (bt ps r || bt 0 r)) ∧ (∀ t, t ≤ T → K' t = K t) ∧ K' (T + 1) = x ∧ (∀ j, j < p ∨ p + 5 < j → h' j = h j) ∧ ∀ j, j < 29 ∨ 34 < j → g' j = g j := by
    intro q W ps h g A f b1 b2 b3 b4 b5
    obtain ⟨h2, c1, c2, c3⟩ := class_fin b2 hT f
    obtain ⟨g2, A2, d1, d2, d3, d4, d5⟩ := model_fin (x := x) (y := y) b4 b3 b1.2.1 hT f
    have e : un S (T + 1) q (T + 1) = q := un_s
    refine ⟨h2, g2, A2, un S (T + 1) q, W, upd K (T + 1) x, upd Q (T + 1) y, ps, c1, d1, ?_, ?_, d2, d3, ?_, fun r => by rw [b_0, Bool.or_false], fun t ht => upd_n (by omega), upd_s, c3, d5⟩
    · rw [e]; exact b1.fin hT b5
    · rw [e]; exact c2
    · rw [e]; exact d4
  intro n
  induction n with
  | zero =>
    intro L q W ps h g A f hn hf hL b1 b2 b3 b4 b5 b6 b7
    obtain ⟨f, rfl⟩ : ∃ g, f = g + 1 := ⟨f - 1, by omega⟩
    have h0 : L = 0 := by
      apply Classical.byContradiction
      intro z
      obtain ⟨r, r1, r2, r3, -⟩ := fr_least G hc (fun r hr => ⟨(hL r hr).1, (hL r hr).2.1⟩) z
      have := cntB_lt (S := 0) (S' := L) 24 r (fun i _ _ hi => by rw [b_0] at hi; cases hi) r1 (by omega) (by rw [b_0]; decide) r3.1
      omega
    subst h0
    exact fin q W ps h g A f b1 b2 b4 b6 (b7.elim id (fun z => absurd rfl z))
  | succ n ih =>
    intro L q W ps h g A f hn hf hL b1 b2 b3 b4 b5 b6 b7
    obtain ⟨f, rfl⟩ : ∃ g, f = g + 1 := ⟨f - 1, by omega⟩
    by_cases h0 : L = 0
    · subst h0
      exact fin q W ps h g A f b1 b2 b4 b6 (b7.elim id (fun z => absurd rfl z))
    · have hL2 : ∀ r, bt L r = true → 1 ≤ r ∧ r ≤ c := fun r hr => ⟨(hL r hr).1, (hL r hr).2.1⟩
      obtain ⟨r, r1, r2, r3, r4⟩ := fr_least G hc hL2 h0
      obtain ⟨-, -, l3, l4, l5⟩ := hL r r3.1
      obtain ⟨hq, b1'⟩ := b1.step hc r1 r2 l3 l4 l5
      obtain ⟨h2, c1, c2, c3⟩ := class_step b2 b1 hc h0 hp b3.i r1 r2 l5 hq (leastFree_eq b3 r r1 (by omega) r3 r4) f
      obtain ⟨g2, A2, d1, d2, d3, d4, d5⟩ := model_step (x := x) (y := y) b6 b4 b1 hc h0 (by rw [b5]; exact G) hL2 r1 r2 l5 hq r3 r4 f
      have hlt : cntB (L &&& (((1 : Int32) <<< (nI r &&& 31)) ^^^ (-1))) 24 < cntB L 24 := cntB_lt 24 r (fun i _ _ hi => by
        rw [bt_not (by omega)] at hi
        exact (Bool.and_eq_true _ _ ▸ hi).1) r1 (by omega) (by rw [bt_not (by omega), decide_eq_true rfl, Bool.not_true, Bool.and_false]; decide) r3.1
      obtain ⟨h', g', A', S', W', K', Q', ps', e1, e2, e3, e4, e5, e6, e7, e8, e9, e10, e11, e12⟩ := ih (L &&& (((1 : Int32) <<< (nI r &&& 31)) ^^^ (-1))) (q + 1) (un W q r) (ps ||| ((1 : Int32) <<< (nI r &&& 31))) h2 g2 A2 f (by omega) (by omega) (fun i hi => by
        rw [bt_not (by omega), Bool.and_eq_true, Bool.not_eq_true', decide_eq_false_iff_not] at hi
        obtain ⟨m1, m2, m3, m4, m5⟩ := hL i hi.1
        refine ⟨m1, m2, m3, m4, ?_⟩
        rw [b_or, m5, sh_bit (by omega), decide_eq_false hi.2]; rfl) b1' c2 (b3.fr (fun j j1 j2 => c3 j (Or.inl (by omega)))) d2 (by rw [d3.1 24 (Or.inl (by decide)), b5]) d4 (Or.inl (by have := b1.2.1; omega))
      refine ⟨h', g', A', S', W', K', Q', ps', by rw [c1]; exact e1, by rw [d1]; exact e2, e3, e4, e5, d3.trans e6, e7, fun i => ?_, e9, e10, fun j hj => by rw [e11 j hj, c3 j hj], fun j hj => by rw [e12 j hj, d5 j hj]⟩
      rw [e8 i, b_or, sh_bit (by omega), bt_not (by omega)]
      by_cases z : i = r
      · subst z
        rw [r3.1, decide_eq_true rfl]; simp
      · rw [decide_eq_false z]; simp
/-- a state with T whole tasks, of class and reference -/
def St (h g : XH) (p c : Nat) (pe co : Nat → Int32) (A : Nat → Nat → Int32) (cd : Int32) (tc : Nat) (bu : Int32) (B T : Nat) (S W : Nat → Nat) (K Q : Nat → Int32) (ps : Int32) (rO : Nat → Int32) : Prop :=
  BP c pe co T S W K Q (S T) 0 0 ps ∧ PC h p c T T S W Q (S T) 0 rO ∧ CM g A cd c tc bu B ∧ MC A T S W K Q (S T)
theorem BP.irr {W : Nat → Nat} {ps x' y' : Int32} (H : BP c pe co T S W K Q (S T) x y ps) : BP c pe co T S W K Q (S T) x' y' ps := ⟨H.1, H.2.1, H.2.2.1, fun i a b => by omega, H.2.2.2.2.1, H.2.2.2.2.2⟩
theorem addTask_eq {h g : XH} {A : Nat → Nat → Int32} {W : Nat → Nat} {ps L : Int32} (hc : c ≤ 24) (G : GI c tb ab) (hp : 13 ≤ p) (H : St h g p c pe co A cd tc bu B T S W K Q ps rO) (hg : CG h tb ab ly tl tcx) (h24 : A 24 = tb) (h0 : L ≠ 0) (hL : ∀ r, bt L r = true → 1 ≤ r ∧ r ≤ c ∧ co r = x ∧ pe r = y ∧ bt ps r = false) : ∃ h' g' A' S' W' K' Q' ps', X_P_addTask p y L 8 h = some h' ∧ X_M_addTask 20 x y L g = some g' ∧ St h' g' p c pe co A' cd tc bu B (T + 1) S' W' K' Q' ps' rO ∧ MB A A' ∧ (∀ r, bt ps' r = (bt ps r || bt L r)) ∧ (∀ t, t ≤ T → K' t = K t) ∧ K' (T + 1) = x ∧ (∀ j, j < p ∨ p + 5 < j → h' j = h j) ∧ ∀ j, j < 29 ∨ 34 < j → g' j = g j := by
  obtain ⟨b1, ⟨tO, pO, rw, sO, C, k1, k2, k3, k4, k5, k6, k7⟩, M, m1, m2, m3, m4⟩ := H
  have hT : T < 24 := by
    obtain ⟨r, r1, r2, r3, -⟩ := fr_least G hc (fun r hr => ⟨(hL r hr).1, (hL r hr).2.1⟩) h0
    have z := (hL r r3.1).2.2.2.2
    have := cntB_full (S := ps) 24 r r1 (by omega) (by rw [z]; decide)
    have l := b1.2.2.1
    have tl : ∀ t, t ≤ T → t ≤ S t := by
      intro t
      induction t with
      | zero => intro _; exact Nat.zero_le _
      | succ t ih =>
        intro ht
        have := ih (by omega)
        have := b1.1.2.2.2.1 t (by omega)
        omega
    have := tl T (Nat.le_refl T)
    omega
  have s1 : xp h 3 0 p (.int (nI (T + 1))) = some (va_up h p (.inr (3, [.int (nI (T + 1)), .ref (p + 1), .ref (p + 2), .ref (p + 3), .ref (p + 4), .ref (p + 5)]))) := xp_at C.1 (show 0 < 6 by decide)
  generalize hg1 : va_up h p (.inr (3, [.int (nI (T + 1)), .ref (p + 1), .ref (p + 2), .ref (p + 3), .ref (p + 4), .ref (p + 5)])) = g1 at s1
  have f1 : ∀ j, j ≠ p → g1 j = h j := fun j hj => by rw [← hg1, up_n hj]
  have C1 : CP g1 p (T + 1) tO pO rO rw sO := ⟨by rw [← hg1, up_s], by rw [f1 _ (by omega)]; exact C.2.1, by rw [f1 _ (by omega)]; exact C.2.2.1, by rw [f1 _ (by omega)]; exact C.2.2.2.1, by rw [f1 _ (by omega)]; exact C.2.2.2.2.1, by rw [f1 _ (by omega)]; exact C.2.2.2.2.2⟩
  have s2 : xaS g1 (p + 2) (nI (T + 1)) y = some (va_up g1 (p + 2) (.inl (.int, (25, .inl (upd pO (T + 1) y))))) := xaS_at C1.2.2.1 (by omega) (by decide)
  generalize hg2 : va_up g1 (p + 2) (.inl (.int, (25, .inl (upd pO (T + 1) y)))) = g2 at s2
  have f2 : ∀ j, j ≠ p + 2 → g2 j = g1 j := fun j hj => by rw [← hg2, up_n hj]
  have C2 : CP g2 p (T + 1) tO (upd pO (T + 1) y) rO rw sO := ⟨by rw [f2 _ (by omega)]; exact C1.1, by rw [f2 _ (by omega)]; exact C1.2.1, by rw [← hg2, up_s], by rw [f2 _ (by omega)]; exact C1.2.2.2.1, by rw [f2 _ (by omega)]; exact C1.2.2.2.2.1, by rw [f2 _ (by omega)]; exact C1.2.2.2.2.2⟩
  have fr2 : ∀ j, j < p ∨ p + 5 < j → g2 j = h j := fun j hj => by rw [f2 j (by omega), f1 j (by omega)]
  have P2 : PC g2 p c (T + 1) T S W Q (S T) y rO := ⟨tO, upd pO (T + 1) y, rw, sO, C2, k1, k2, fun t ht => by rw [upd_n (by omega)]; exact k3 t ht, fun _ => upd_s, k5, fun i a b => by omega, k7⟩
  have ecls : X_P_addTask p y L 8 h = D_P_addTask_44 5000 p 8 L (nI (S T)) g2 := by
    unfold X_P_addTask D_P_addTask_0
    simp only [C.cn, xb1_some, nI_1, s1, C1.pe, C1.cn, s2, C2.st, C2.cn, xaI_at C2.2.2.2.2.2 (show T + 1 < 26 by omega) (by decide), k1 T (Nat.le_refl T)]
    rw [if_pos (show nI T < (24 : Int32) from nI_lt (b := 24) hT (by decide))]
  have emod : X_M_addTask 20 x y L g = D_M_addTask_29 5000 20 x y (nI T) (nI (S T)) L g := by
    have e0 : xaI g 29 (0 : Int32) = some (nI T) := by rw [← m1.1]; exact xaI_at (i := 0) M.a29 (by decide) (by decide)
    unfold X_M_addTask D_M_addTask_0 D_M_addTask_24
    simp only [M.g13, xb1_some, e0]
    by_cases z : T = 0
    · subst z
      rw [if_pos (show nI 0 = 0 from rfl), b1.1.2.1]; rfl
    · rw [if_neg (nI_ne0 (by omega) (by omega)), M.g16, xb1_some, xaI_at M.a32 (show T < 1025 by omega) (by decide), xb1_some]
      have := (m1.2.1 (T - 1) (by omega)).2.2
      rw [show 25 * 0 + (T - 1 + 1) = T by omega, show T - 1 + 1 = T by omega] at this
      rw [this]
  obtain ⟨h', g', A', S', W', K', Q', ps', e1, e2, e3, e4, e5, e6, e7, e8, e9, e10, e11, e12⟩ := fill_eq (tb := tb) (ab := ab) (ly := ly) (tl := tl) (tcx := tcx) (p := p) (rO := rO) (x := x) (y := y) hc hT G hp 24 L (S T) W ps g2 g A 5000 (cntB_le L 24) (by omega) hL b1.irr P2 (hg.fr (fun j j1 j2 => fr2 j (Or.inl (by omega)))) M h24 ⟨m1, m2, m3, m4⟩ (Or.inr h0)
  refine ⟨h', g', A', S', W', K', Q', ps', by rw [ecls]; exact e1, by rw [emod]; exact e2, ⟨e3.irr, ?_, e5, e7⟩, e6, e8, e9, e10, fun j hj => by rw [e11 j hj, fr2 j hj], e12⟩
  obtain ⟨tO', pO', rw', sO', z0, z1, z2, z3, z4, z5⟩ := e4
  exact ⟨tO', pO', rw', sO', z0, z1, z2, z3, fun z => by omega, z5⟩
end Tk

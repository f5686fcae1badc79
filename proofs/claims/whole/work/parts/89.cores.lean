/-! the cores one behind the other, with the ranks -/
theorem rkF_cong {K K' : Nat → Int32} {T T' t : Nat} : ∀ k, K' t = K t → (∀ u, u < k → K' (t + u) = K (t + u)) → rkF K' T' t k = rkF K T t k := by
  intro k e h
  induction k with
  | zero => rfl
  | succ k ih => rw [rkF, rkF, ih (fun u hu => h u (by omega)), h k (by omega), e]
theorem rkF_stop {K : Nat → Int32} {T t k : Nat} : ∀ d, (∀ u, k ≤ u → u < k + d → K (t + u) ≠ K t) → rkF K T t (k + d) = rkF K T t k := by
  intro d
  induction d with
  | zero => intro _; rfl
  | succ d ih =>
    intro h
    rw [show k + (d + 1) = (k + d) + 1 by omega, rkF, ih (fun u a b => h u a (by omega)), if_neg (h (k + d) (by omega) (by omega)), Nat.add_zero]
theorem rkF_all {K : Nat → Int32} {T t : Nat} : ∀ k, (∀ u, u < k → K (t + u) = K t) → rkF K T t k = k := by
  intro k
  induction k with
  | zero => intro _; rfl
  | succ k ih => intro h; rw [rkF, ih (fun u hu => h u (by omega)), if_pos (h k (by omega))]
section Co
variable {p c : Nat} {pe co sp rd wr tb ab ly tl : Nat → Int32} {cd : Int32} {tc B : Nat} {bu tcx : Int32} {pN cN : Nat → Nat}
theorem rank_loop {T : Nat} {S W : Nat → Nat} {Q : Nat → Int32} (hT : T ≤ 24) (hp : 13 ≤ p) (x : Int32) (k7 : Nat → Nat → Nat → Int32 → XH → Option XH) : ∀ d t f (h : XH) (rO : Nat → Int32), t + d = T + 1 → d < f → PC h p c T T S W Q (S T) 0 rO → ∃ h' rO', D_P_layOut_38 k7 f p 2 8 x (nI t) h = k7 p 2 8 (x + 1) h' ∧ PC h' p c T T S W Q (S T) 0 rO' ∧ (∀ j, j < p ∨ p + 5 < j → h' j = h j) ∧ (∀ u, u < t → rO' u = rO u) ∧ ∀ u, t ≤ u → u ≤ T → rO' u = nI (T - u + 1) := by
  intro d
  induction d with
  | zero =>
    intro t f h rO ht hf H
    obtain ⟨f, rfl⟩ : ∃ g, f = g + 1 := ⟨f - 1, by omega⟩
    obtain ⟨tO, pO, rw, sO, C, k⟩ := H
    refine ⟨h, rO, ?_, ⟨tO, pO, rw, sO, C, k⟩, fun _ _ => rfl, fun _ _ => rfl, fun u a b => by omega⟩
    simp only [D_P_layOut_38, C.cn, xb1_some]
    rw [if_pos (nI_lt (by omega) (by omega))]
  | succ d ih =>
    intro t f h rO ht hf H
    obtain ⟨f, rfl⟩ : ∃ g, f = g + 1 := ⟨f - 1, by omega⟩
    obtain ⟨tO, pO, rw, sO, C, k⟩ := H
    have s1 : xaS h (p + 3) (nI t) (nI (T - t + 1)) = some (va_up h (p + 3) (.inl (.int, (25, .inl (upd rO t (nI (T - t + 1))))))) := xaS_at C.2.2.2.1 (by omega) (by decide)
    generalize hg1 : va_up h (p + 3) (.inl (.int, (25, .inl (upd rO t (nI (T - t + 1)))))) = g1 at s1
    have f1 : ∀ j, j ≠ p + 3 → g1 j = h j := fun j hj => by rw [← hg1, up_n hj]
    have C1 : CP g1 p T tO pO (upd rO t (nI (T - t + 1))) rw sO := ⟨by rw [f1 _ (by omega)]; exact C.1, by rw [f1 _ (by omega)]; exact C.2.1, by rw [f1 _ (by omega)]; exact C.2.2.1, by rw [← hg1, up_s], by rw [f1 _ (by omega)]; exact C.2.2.2.2.1, by rw [f1 _ (by omega)]; exact C.2.2.2.2.2⟩
    obtain ⟨h', rO', b1, b2, b3, b4, b5⟩ := ih (t + 1) f g1 _ (by omega) (by omega) ⟨tO, pO, rw, sO, C1, k⟩
    refine ⟨h', rO', ?_, b2, fun j hj => by rw [b3 j hj, f1 j (by omega)], fun u hu => by rw [b4 u (by omega), upd_n (by omega)], fun u u1 u2 => ?_⟩
    · simp only [D_P_layOut_38, C.cn, C.ra, xb1_some, pk_sub (show t ≤ T by omega), nI_1, s1]
      rw [if_neg (nI_nlt (by omega) (by omega))]
      exact b1
    · by_cases e : u = t
      · rw [e, b4 t (by omega), upd_s]
      · exact b5 u (by omega) u2
/-- the state between the cores: those below k are done -/
def Sc (h g : XH) (p c : Nat) (pe co : Nat → Int32) (A : Nat → Nat → Int32) (cd : Int32) (tc : Nat) (bu : Int32) (B : Nat) (cN : Nat → Nat) (k T : Nat) (S W : Nat → Nat) (K Q : Nat → Int32) (ps : Int32) (rO : Nat → Int32) : Prop :=
  St h g p c pe co A cd tc bu B T S W K Q ps rO ∧ (∀ r, bt ps r = decide (1 ≤ r ∧ r ≤ c ∧ cN r < k)) ∧ (∀ t, 1 ≤ t → t ≤ T → rO t = nI (rkF K T t (T + 1 - t))) ∧ ∀ t, 1 ≤ t → t ≤ T → ∃ k', k' < k ∧ K t = nI k'
theorem core_eq {h g : XH} {A : Nat → Nat → Int32} {k T : Nat} {S W : Nat → Nat} {K Q rO : Nat → Int32} {ps : Int32} (hc : c ≤ 24) (G : GI c tb ab) (hp : 13 ≤ p) (hN : ∀ r, 1 ≤ r → r ≤ c → pe r = nI (pN r) ∧ pN r ≤ 1000) (hC : ∀ r, 1 ≤ r → r ≤ c → co r = nI (cN r) ∧ 1 ≤ cN r ∧ cN r ≤ 4) (hk : 1 ≤ k ∧ k ≤ 4) (H : Sc h g p c pe co A cd tc bu B cN k T S W K Q ps rO) (hg : CG h tb ab ly tl tcx) (hu : CU h c pe co sp rd wr) (h24 : A 24 = tb) (h21 : A 21 = pe) (h22 : A 22 = co) (f f2 : Nat) : ∃ h' g' A' T' S' W' K' Q' ps' rO', D_P_layOut_7 (f + 1) p 2 8 (nI k) h = D_P_layOut_7 f p 2 8 (nI (k + 1)) h' ∧ D_M_build_45 (f2 + 1) 20 (nI k) g = D_M_build_45 f2 20 (nI (k + 1)) g' ∧ Sc h' g' p c pe co A' cd tc bu B cN (k + 1) T' S' W' K' Q' ps' rO' ∧ MB A A' ∧ (∀ j, j < p ∨ p + 5 < j → h' j = h j) ∧ ∀ j, j < 29 ∨ 34 < j → g' j = g j := by
  obtain ⟨H, hb, hr, hK⟩ := H
  have hx : ∀ r, 1 ≤ r → r ≤ c → (co r = nI k ↔ cN r = k) := fun r r1 r2 => by
    obtain ⟨a, b, d⟩ := hC r r1 r2
    rw [a]; exact nI_eq (by omega) (by omega)
  have h0 : ∀ r, 1 ≤ r → r ≤ c → co r = nI k → bt ps r = false := fun r r1 r2 r3 => by
    rw [hb r]
    exact decide_eq_false (fun z => by have := (hx r r1 r2).mp r3; omega)
  obtain ⟨h1, g1, A1, T1, S1, W1, K1, Q1, ps1, a1, a2, a3, a4⟩ := ev_loop (x := nI k) (rO := rO) (tcx := tcx) (ly := ly) (tl := tl) hc G hp ps h0 c 1 5000 5000 h g A T S W K Q ps (Nat.le_refl 1) (by omega) (by omega) (by omega) H hg h24 h21 h22 (fun r => by rw [decide_eq_false (by omega : ¬ (1 ≤ r ∧ r < 1 ∧ co r = nI k ∧ pe r = 0)), Bool.or_false])
  have fr1 := a3.2.2.2.2.2.1
  have hg1 : CG h1 tb ab ly tl tcx := hg.fr (fun j j1 j2 => fr1 j (Or.inl (by omega)))
  have hu1 : CU h1 c pe co sp rd wr := hu.fr (fun j j1 j2 => fr1 j (Or.inl (by omega)))
  have e24 : A1 24 = tb := by rw [a3.2.1.1 24 (Or.inl (by decide)), h24]
  have e21 : A1 21 = pe := by rw [a3.2.1.1 21 (Or.inl (by decide)), h21]
  have e22 : A1 22 = co := by rw [a3.2.1.1 22 (Or.inl (by decide)), h22]
  obtain ⟨h2, g2, A2, T2, S2, W2, K2, Q2, ps2, b1, b2, b3, b4⟩ := per_loop (x := nI k) (rO := rO) (tcx := tcx) (ly := ly) (tl := tl) (pN := pN) (sp := sp) (rd := rd) (wr := wr) hc G hp hN ps h0 1000 0 0 5000 5000 h1 g1 A1 T1 S1 W1 K1 Q1 ps1 (by omega) (by omega) (by omega) (by omega) (Nat.zero_le _) a3.1 hg1 hu1 e24 e21 e22 (fun r => by
    rw [a4 r]
    congr 1
    refine decide_eq_decide.mpr ⟨fun z => ⟨z.1, z.2.1, z.2.2.1, ?_⟩, fun z => ⟨z.1, z.2.1, z.2.2.1, ?_⟩⟩
    · have := z.2.2.2
      rw [(hN r z.1 z.2.1).1, show (0 : Int32) = nI 0 from rfl] at this
      have := (nI_eq (by have := (hN r z.1 z.2.1).2; omega) (by omega)).mp this
      omega
    · rw [(hN r z.1 z.2.1).1, show pN r = 0 by omega]; rfl)
  have ab3 := a3.trans b3
  obtain ⟨b3a, b3b, b3c, b3d, b3e, b3f, b3g⟩ := ab3
  have hT2 : T2 ≤ 24 := b3a.1.1.1
  obtain ⟨h3, rO3, c1, c2, c3, c4, c5⟩ := rank_loop hT2 hp (nI k) (D_P_layOut_7 f) (T2 - T) (T + 1) 5000 h2 rO (by omega) (by omega) b3a.2.1
  refine ⟨h3, g2, A2, T2, S2, W2, K2, Q2, ps2, rO3, ?_, ?_, ⟨⟨b3a.1, c2, b3a.2.2⟩, fun r => ?_, fun t t1 t2 => ?_, fun t t1 t2 => ?_⟩, b3b, fun j hj => by rw [c3 j hj, b3f j hj], b3g⟩
  · obtain ⟨tO, pO, rw, sO, C, -⟩ := H.2.1
    obtain ⟨tO1, pO1, rw1, sO1, C1, -⟩ := a3.1.2.1
    have ev : X_P_addEventTasks p (nI k) 2 8 h = some h1 := by
      unfold X_P_addEventTasks D_P_addEventTasks_0
      rw [hu.i, xchk_true, group_eq hu hc, xb1_some]
      exact a1
    have pr : X_P_addPeriodTasks p (nI k) 2 8 h1 = some h2 := by
      unfold X_P_addPeriodTasks D_P_addPeriodTasks_0
      rw [hu1.i, xchk_true, show (0 : Int32) = nI 0 from rfl, above_eq hu1 hc hN 0 (by omega), xb1_some]
      exact b1
    rw [nI_1] at c1
    simp only [D_P_layOut_7, C.cn, C.i, C1.i, xchk_true, xb1_some, ev, pr, nI_1, c1]
    rw [if_neg (show ¬ (4 : Int32) < nI k from nI_nlt (a := 4) (by omega) (by decide))]
  · have mk : X_M_makeTasks 20 (nI k) g = some g2 := by
      unfold X_M_makeTasks D_M_makeTasks_0
      rw [show D_M_makeTasks_2 5000 20 (nI k) 1 g = _ from a2]
      exact b2
    simp only [D_M_build_45, H.2.2.1.i, xchk_true, mk, xb1_some, nI_1]
    rw [if_neg (show ¬ (4 : Int32) < nI k from nI_nlt (a := 4) (by omega) (by decide))]
  · rw [b4 r, hb r, ← Bool.decide_or]
    refine decide_eq_decide.mpr ⟨?_, ?_⟩
    · rintro (z | z)
      · exact ⟨z.1, z.2.1, by omega⟩
      · exact ⟨z.1, z.2.1, by have := (hx r z.1 z.2.1).mp z.2.2; omega⟩
    · rintro ⟨z1, z2, z3⟩
      rcases Nat.lt_or_ge (cN r) k with v | v
      · exact Or.inl ⟨z1, z2, v⟩
      · exact Or.inr ⟨z1, z2, (hx r z1 z2).mpr (by omega)⟩
  · rcases Nat.lt_or_ge T t with v | v
    · rw [c5 t (by omega) t2, rkF_all (T2 + 1 - t) (fun u hu' => by rw [b3e (t + u) (by omega) (by omega), b3e t v t2]), show T2 - t + 1 = T2 + 1 - t by omega]
    · rw [c4 t (by omega), hr t t1 v]
      congr 1
      obtain ⟨k', q1, q2⟩ := hK t t1 v
      have ek : K2 t = K t := b3d t v
      rw [show T2 + 1 - t = (T + 1 - t) + (T2 - T) by omega, rkF_stop (T2 - T) (fun u u1 u2 z => by
        rw [b3e (t + u) (by omega) (by omega), ek, q2] at z
        have := (nI_eq (by omega) (by omega)).mp z
        omega)]
      exact (rkF_cong (T + 1 - t) ek (fun u hu' => b3d (t + u) (by omega))).symm
  · rcases Nat.lt_or_ge T t with v | v
    · exact ⟨k, by omega, b3e t v t2⟩
    · obtain ⟨k', q1, q2⟩ := hK t t1 v
      exact ⟨k', by omega, by rw [b3d t v, q2]⟩
theorem cores_eq (hc : c ≤ 24) (G : GI c tb ab) (hp : 13 ≤ p) (hN : ∀ r, 1 ≤ r → r ≤ c → pe r = nI (pN r) ∧ pN r ≤ 1000) (hC : ∀ r, 1 ≤ r → r ≤ c → co r = nI (cN r) ∧ 1 ≤ cN r ∧ cN r ≤ 4) : ∀ d k f f2 (h g : XH) (A : Nat → Nat → Int32) (T : Nat) (S W : Nat → Nat) (K Q rO : Nat → Int32) (ps : Int32), k + d = 5 → 1 ≤ k → Sc h g p c pe co A cd tc bu B cN k T S W K Q ps rO → CG h tb ab ly tl tcx → CU h c pe co sp rd wr → A 24 = tb → A 21 = pe → A 22 = co → ∃ h' g' A' T' S' W' K' Q' ps' rO', D_P_layOut_7 (f + 1 + d) p 2 8 (nI k) h = some h' ∧ D_M_build_45 (f2 + d) 20 (nI k) g = D_M_build_45 f2 20 5 g' ∧ Sc h' g' p c pe co A' cd tc bu B cN 5 T' S' W' K' Q' ps' rO' ∧ MB A A' ∧ (∀ j, j < p ∨ p + 5 < j → h' j = h j) ∧ ∀ j, j < 29 ∨ 34 < j → g' j = g j := by
  intro d
  induction d with
  | zero =>
    intro k f f2 h g A T S W K Q rO ps hk hk1 H hg hu h24 h21 h22
    obtain rfl : k = 5 := by omega
    exact ⟨h, g, A, T, S, W, K, Q, ps, rO, rfl, rfl, H, MB.refl A, fun _ _ => rfl, fun _ _ => rfl⟩
  | succ d ih =>
    intro k f f2 h g A T S W K Q rO ps hk hk1 H hg hu h24 h21 h22
    obtain ⟨h1, g1, A1, T1, S1, W1, K1, Q1, ps1, rO1, a1, a2, a3, a4, a5, a6⟩ := core_eq hc G hp hN hC ⟨hk1, by omega⟩ H hg hu h24 h21 h22 (f + 1 + d) (f2 + d)
    obtain ⟨h', g', A', T', S', W', K', Q', ps', rO', b1, b2, b3, b4, b5, b6⟩ := ih (k + 1) f f2 h1 g1 A1 T1 S1 W1 K1 Q1 rO1 ps1 (by omega) (by omega) a3 (hg.fr (fun j j1 j2 => a5 j (Or.inl (by omega)))) (hu.fr (fun j j1 j2 => a5 j (Or.inl (by omega)))) (by rw [a4.1 24 (Or.inl (by decide)), h24]) (by rw [a4.1 21 (Or.inl (by decide)), h21]) (by rw [a4.1 22 (Or.inl (by decide)), h22])
    exact ⟨h', g', A', T', S', W', K', Q', ps', rO', by rw [show f + 1 + (d + 1) = f + 1 + d + 1 by omega, a1]; exact b1, by rw [show f2 + (d + 1) = f2 + d + 1 by omega, a2]; exact b2, b3, a4.trans b4, fun j hj => by rw [b5 j hj, a5 j hj], fun j hj => by rw [b6 j hj, a6 j hj]⟩
end Co

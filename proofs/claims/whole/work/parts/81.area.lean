/-! area(runnable, data) -/
theorem area_inv_r {m n : Nat} {h h' : XH} {A : Nat → Nat → Int32} {PT : Nat → Nat} {cd : Int32} {c tc kc B : Nat} {bl : Option Nat} {bu : Int32} (C : Cells h A PT cd c tc kc B bl bu) (hn : n = 34 + 6 * kc) (hB : B ≤ m) (RU : RelU A c) (RG : RelG A c tc) (RD : RelD A c) (RK : RelK A PT c kc B) (RZ : RelZ A c) {r d : Nat} (r1 : 1 ≤ r) (r2 : r ≤ c) (d1 : 1 ≤ d) (d2 : d ≤ 20) (e1 : h' 1 = .inr (0, [.ref 2, .ref 8, .ref 13, .int (nI kc), .ref 14, va_rf none])) (e20 : h' 20 = mO 0 c (nI tc) 0 (nI B)) (ea : h' 6 = .inl (.int, (25, .inl (upd (A 6) r (A 6 r ||| ((1 : Int32) <<< (nI d &&& 31))))))) (eb : h' 25 = .inl (.int, (21, .inl (upd (A 25) d (A 25 d ||| ((1 : Int32) <<< (nI r &&& 31))))))) (fr : ∀ j, j ≠ 1 → j ≠ 20 → j ≠ 6 → j ≠ 25 → h' j = h j) : Inv m n h' ∧ ∀ d', 1 ≤ d' → d' ≤ 20 → bt (upd (A 6) r (A 6 r ||| ((1 : Int32) <<< (nI d &&& 31))) r) d' = bt (upd (A 25) d (A 25 d ||| ((1 : Int32) <<< (nI r &&& 31))) d') r := by
  have hc := RU.1
  obtain ⟨A', hA'⟩ : ∃ A' : Nat → Nat → Int32, A' = fun j => if j = 6 then upd (A 6) r (A 6 r ||| ((1 : Int32) <<< (nI d &&& 31))) else if j = 25 then upd (A 25) d (A 25 d ||| ((1 : Int32) <<< (nI r &&& 31))) else A j := ⟨_, rfl⟩
  have ka : A' 6 = upd (A 6) r (A 6 r ||| ((1 : Int32) <<< (nI d &&& 31))) := by rw [hA']; rfl
  have kb : A' 25 = upd (A 25) d (A 25 d ||| ((1 : Int32) <<< (nI r &&& 31))) := by rw [hA']; rfl
  have kn : ∀ j, j ≠ 6 → j ≠ 25 → A' j = A j := fun j a b => by rw [hA']; simp only [if_neg a, if_neg b]
  have ba : ∀ r' d', bt (A' 6 r') d' = (bt (A 6 r') d' || (decide (r' = r) && decide (d' = d))) := by
    intro r' d'
    rw [ka]
    by_cases e : r' = r
    · subst e; rw [upd_s, b_or, sh_bit (by omega), decide_eq_true (rfl : r' = r'), Bool.true_and]
    · rw [upd_n e, decide_eq_false e, Bool.false_and, Bool.or_false]
  have bb : ∀ r' d', bt (A' 25 d') r' = (bt (A 25 d') r' || (decide (r' = r) && decide (d' = d))) := by
    intro r' d'
    rw [kb]
    by_cases e : d' = d
    · subst e; rw [upd_s, b_or, sh_bit (by omega), decide_eq_true (rfl : d' = d'), Bool.and_true]
    · rw [upd_n e, decide_eq_false e, Bool.and_false, Bool.or_false]
  have key : ∀ r' d', r' ≤ 24 → 1 ≤ d' → d' ≤ 20 → bt (A' 6 r') d' = bt (A' 25 d') r' := by
    intro r' d' h1 h2 h3
    rw [ba, bb, (RD.1 r' d' h1 h2 h3).1]
  refine ⟨⟨A', PT, 0, c, tc, kc, B, none, 0, ⟨⟨e1, by rw [fr 13 (by decide) (by decide) (by decide) (by decide)]; exact C.1.2⟩, ?_, ?_, ?_, fun p hp => ?_⟩, hn, hB, ?_, ?_, ?_, ?_, RelB.none _ _ _ _, ?_⟩, ?_⟩
  · obtain ⟨a0, a1, a2, a3, a4, a5⟩ := C.2.1
    rw [kn 3 (by decide) (by decide), kn 4 (by decide) (by decide), kn 5 (by decide) (by decide), kn 7 (by decide) (by decide), ka]
    refine ⟨by rw [fr 2 (by decide) (by decide) (by decide) (by decide)]; exact a0, by rw [fr 3 (by decide) (by decide) (by decide) (by decide)]; exact a1, by rw [fr 4 (by decide) (by decide) (by decide) (by decide)]; exact a2, by rw [fr 5 (by decide) (by decide) (by decide) (by decide)]; exact a3, ea, by rw [fr 7 (by decide) (by decide) (by decide) (by decide)]; exact a5⟩
  · rw [kn 9 (by decide) (by decide), kn 10 (by decide) (by decide), kn 11 (by decide) (by decide), kn 12 (by decide) (by decide)]
    exact C.2.2.1.fr (fun j j1 j2 => fr j (by omega) (by omega) (by omega) (by omega))
  · have M := C.2.2.2.1
    have f : ∀ j, 21 ≤ j → j ≤ 34 → j ≠ 25 → A' j = A j ∧ h' j = h j := fun j h1 h2 h3 => ⟨kn j (by omega) h3, fr j (by omega) (by omega) (by omega) h3⟩
    refine ⟨e20, ?_, ?_, ?_, ?_, ?_, ?_, ?_, ?_, ?_, ?_, ?_, ?_, ?_, ?_⟩
    · rw [(f 21 (by decide) (by decide) (by decide)).1, (f 21 (by decide) (by decide) (by decide)).2]; exact M.a21
    · rw [(f 22 (by decide) (by decide) (by decide)).1, (f 22 (by decide) (by decide) (by decide)).2]; exact M.a22
    · rw [(f 23 (by decide) (by decide) (by decide)).1, (f 23 (by decide) (by decide) (by decide)).2]; exact M.a23
    · rw [(f 24 (by decide) (by decide) (by decide)).1, (f 24 (by decide) (by decide) (by decide)).2]; exact M.a24
    · rw [kb]; exact eb
    · rw [(f 26 (by decide) (by decide) (by decide)).1, (f 26 (by decide) (by decide) (by decide)).2]; exact M.a26
    · rw [(f 27 (by decide) (by decide) (by decide)).1, (f 27 (by decide) (by decide) (by decide)).2]; exact M.a27
    · rw [(f 28 (by decide) (by decide) (by decide)).1, (f 28 (by decide) (by decide) (by decide)).2]; exact M.a28
    · rw [(f 29 (by decide) (by decide) (by decide)).1, (f 29 (by decide) (by decide) (by decide)).2]; exact M.a29
    · rw [(f 30 (by decide) (by decide) (by decide)).1, (f 30 (by decide) (by decide) (by decide)).2]; exact M.a30
    · rw [(f 31 (by decide) (by decide) (by decide)).1, (f 31 (by decide) (by decide) (by decide)).2]; exact M.a31
    · rw [(f 32 (by decide) (by decide) (by decide)).1, (f 32 (by decide) (by decide) (by decide)).2]; exact M.a32
    · rw [(f 33 (by decide) (by decide) (by decide)).1, (f 33 (by decide) (by decide) (by decide)).2]; exact M.a33
    · rw [(f 34 (by decide) (by decide) (by decide)).1, (f 34 (by decide) (by decide) (by decide)).2]; exact M.a34
  · have hp14 : p = 14 ∨ 35 ≤ p := hp.ge
    rw [kn (p + 1) (by omega) (by omega), kn (p + 2) (by omega) (by omega), kn (p + 3) (by omega) (by omega), kn (p + 4) (by omega) (by omega), kn (p + 5) (by omega) (by omega)]
    exact (C.2.2.2.2 p hp).fr (fun j j1 j2 => fr j (by omega) (by omega) (by omega) (by omega))
  · unfold RelU
    rw [kn 21 (by decide) (by decide), kn 22 (by decide) (by decide), kn 23 (by decide) (by decide), kn 24 (by decide) (by decide), kn 3 (by decide) (by decide), kn 4 (by decide) (by decide), kn 5 (by decide) (by decide), kn 9 (by decide) (by decide)]
    exact RU
  · unfold RelG
    rw [kn 9 (by decide) (by decide), kn 10 (by decide) (by decide), kn 12 (by decide) (by decide), kn 27 (by decide) (by decide)]
    exact RG
  · unfold RelD
    rw [kn 7 (by decide) (by decide), kn 26 (by decide) (by decide)]
    refine ⟨fun r' d' h1 h2 h3 => ?_, fun r' d' h1 h2 => ?_, fun r' d' h1 h2 => ?_⟩
    · exact ⟨key r' d' h1 h2 h3, (RD.1 r' d' h1 h2 h3).2⟩
    · rw [ba] at h2
      by_cases e : r' = r ∧ d' = d
      · obtain ⟨rfl, rfl⟩ := e; exact ⟨d1, d2, r1, r2⟩
      · have : (decide (r' = r) && decide (d' = d)) = false := by
          rw [← Bool.not_eq_true, Bool.and_eq_true, decide_eq_true_eq, decide_eq_true_eq]; exact e
        rw [this, Bool.or_false] at h2
        exact RD.2.1 r' d' h1 h2
    · rw [bb] at h2
      by_cases e : r' = r ∧ d' = d
      · obtain ⟨rfl, rfl⟩ := e; exact ⟨d1, r1, r2⟩
      · have : (decide (r' = r) && decide (d' = d)) = false := by
          rw [← Bool.not_eq_true, Bool.and_eq_true, decide_eq_true_eq, decide_eq_true_eq]; exact e
        rw [this, Bool.or_false] at h2
        exact RD.2.2 r' d' h1 h2
  · exact RK.fr (Nat.le_refl c) (fun r' _ => by rw [kn 3 (by decide) (by decide), kn 4 (by decide) (by decide)]; exact ⟨rfl, rfl⟩) (fun j hj => kn j (by omega) (by omega))
  · unfold RelZ
    rw [kn 15 (by decide) (by decide), kn 19 (by decide) (by decide)]
    exact RZ
  · intro d' h1 h2
    rw [← ka, ← kb]
    exact key r d' (by omega) h1 h2
theorem area_inv_w {m n : Nat} {h h' : XH} {A : Nat → Nat → Int32} {PT : Nat → Nat} {cd : Int32} {c tc kc B : Nat} {bl : Option Nat} {bu : Int32} (C : Cells h A PT cd c tc kc B bl bu) (hn : n = 34 + 6 * kc) (hB : B ≤ m) (RU : RelU A c) (RG : RelG A c tc) (RD : RelD A c) (RK : RelK A PT c kc B) (RZ : RelZ A c) {r d : Nat} (r1 : 1 ≤ r) (r2 : r ≤ c) (d1 : 1 ≤ d) (d2 : d ≤ 20) (e1 : h' 1 = .inr (0, [.ref 2, .ref 8, .ref 13, .int (nI kc), .ref 14, va_rf none])) (e20 : h' 20 = mO 0 c (nI tc) 0 (nI B)) (ea : h' 7 = .inl (.int, (25, .inl (upd (A 7) r (A 7 r ||| ((1 : Int32) <<< (nI d &&& 31))))))) (eb : h' 26 = .inl (.int, (21, .inl (upd (A 26) d (A 26 d ||| ((1 : Int32) <<< (nI r &&& 31))))))) (fr : ∀ j, j ≠ 1 → j ≠ 20 → j ≠ 7 → j ≠ 26 → h' j = h j) : Inv m n h' ∧ ∀ d', 1 ≤ d' → d' ≤ 20 → bt (upd (A 7) r (A 7 r ||| ((1 : Int32) <<< (nI d &&& 31))) r) d' = bt (upd (A 26) d (A 26 d ||| ((1 : Int32) <<< (nI r &&& 31))) d') r := by
  have hc := RU.1
  obtain ⟨A', hA'⟩ : ∃ A' : Nat → Nat → Int32, A' = fun j => if j = 7 then upd (A 7) r (A 7 r ||| ((1 : Int32) <<< (nI d &&& 31))) else if j = 26 then upd (A 26) d (A 26 d ||| ((1 : Int32) <<< (nI r &&& 31))) else A j := ⟨_, rfl⟩
  have ka : A' 7 = upd (A 7) r (A 7 r ||| ((1 : Int32) <<< (nI d &&& 31))) := by rw [hA']; rfl
  have kb : A' 26 = upd (A 26) d (A 26 d ||| ((1 : Int32) <<< (nI r &&& 31))) := by rw [hA']; rfl
  have kn : ∀ j, j ≠ 7 → j ≠ 26 → A' j = A j := fun j a b => by rw [hA']; simp only [if_neg a, if_neg b]
  have ba : ∀ r' d', bt (A' 7 r') d' = (bt (A 7 r') d' || (decide (r' = r) && decide (d' = d))) := by
    intro r' d'
    rw [ka]
    by_cases e : r' = r
    · subst e; rw [upd_s, b_or, sh_bit (by omega), decide_eq_true (rfl : r' = r'), Bool.true_and]
    · rw [upd_n e, decide_eq_false e, Bool.false_and, Bool.or_false]
  have bb : ∀ r' d', bt (A' 26 d') r' = (bt (A 26 d') r' || (decide (r' = r) && decide (d' = d))) := by
    intro r' d'
    rw [kb]
    by_cases e : d' = d
    · subst e; rw [upd_s, b_or, sh_bit (by omega), decide_eq_true (rfl : d' = d'), Bool.and_true]
    · rw [upd_n e, decide_eq_false e, Bool.and_false, Bool.or_false]
  have key : ∀ r' d', r' ≤ 24 → 1 ≤ d' → d' ≤ 20 → bt (A' 7 r') d' = bt (A' 26 d') r' := by
    intro r' d' h1 h2 h3
    rw [ba, bb, (RD.1 r' d' h1 h2 h3).2]
  refine ⟨⟨A', PT, 0, c, tc, kc, B, none, 0, ⟨⟨e1, by rw [fr 13 (by decide) (by decide) (by decide) (by decide)]; exact C.1.2⟩, ?_, ?_, ?_, fun p hp => ?_⟩, hn, hB, ?_, ?_, ?_, ?_, RelB.none _ _ _ _, ?_⟩, ?_⟩
  · obtain ⟨a0, a1, a2, a3, a4, a5⟩ := C.2.1
    rw [kn 3 (by decide) (by decide), kn 4 (by decide) (by decide), kn 5 (by decide) (by decide), kn 6 (by decide) (by decide), ka]
    refine ⟨by rw [fr 2 (by decide) (by decide) (by decide) (by decide)]; exact a0, by rw [fr 3 (by decide) (by decide) (by decide) (by decide)]; exact a1, by rw [fr 4 (by decide) (by decide) (by decide) (by decide)]; exact a2, by rw [fr 5 (by decide) (by decide) (by decide) (by decide)]; exact a3, by rw [fr 6 (by decide) (by decide) (by decide) (by decide)]; exact a4, ea⟩
  · rw [kn 9 (by decide) (by decide), kn 10 (by decide) (by decide), kn 11 (by decide) (by decide), kn 12 (by decide) (by decide)]
    exact C.2.2.1.fr (fun j j1 j2 => fr j (by omega) (by omega) (by omega) (by omega))
  · have M := C.2.2.2.1
    have f : ∀ j, 21 ≤ j → j ≤ 34 → j ≠ 26 → A' j = A j ∧ h' j = h j := fun j h1 h2 h3 => ⟨kn j (by omega) h3, fr j (by omega) (by omega) (by omega) h3⟩
    refine ⟨e20, ?_, ?_, ?_, ?_, ?_, ?_, ?_, ?_, ?_, ?_, ?_, ?_, ?_, ?_⟩
    · rw [(f 21 (by decide) (by decide) (by decide)).1, (f 21 (by decide) (by decide) (by decide)).2]; exact M.a21
    · rw [(f 22 (by decide) (by decide) (by decide)).1, (f 22 (by decide) (by decide) (by decide)).2]; exact M.a22
    · rw [(f 23 (by decide) (by decide) (by decide)).1, (f 23 (by decide) (by decide) (by decide)).2]; exact M.a23
    · rw [(f 24 (by decide) (by decide) (by decide)).1, (f 24 (by decide) (by decide) (by decide)).2]; exact M.a24
    · rw [(f 25 (by decide) (by decide) (by decide)).1, (f 25 (by decide) (by decide) (by decide)).2]; exact M.a25
    · rw [kb]; exact eb
    · rw [(f 27 (by decide) (by decide) (by decide)).1, (f 27 (by decide) (by decide) (by decide)).2]; exact M.a27
    · rw [(f 28 (by decide) (by decide) (by decide)).1, (f 28 (by decide) (by decide) (by decide)).2]; exact M.a28
    · rw [(f 29 (by decide) (by decide) (by decide)).1, (f 29 (by decide) (by decide) (by decide)).2]; exact M.a29
    · rw [(f 30 (by decide) (by decide) (by decide)).1, (f 30 (by decide) (by decide) (by decide)).2]; exact M.a30
    · rw [(f 31 (by decide) (by decide) (by decide)).1, (f 31 (by decide) (by decide) (by decide)).2]; exact M.a31
    · rw [(f 32 (by decide) (by decide) (by decide)).1, (f 32 (by decide) (by decide) (by decide)).2]; exact M.a32
    · rw [(f 33 (by decide) (by decide) (by decide)).1, (f 33 (by decide) (by decide) (by decide)).2]; exact M.a33
    · rw [(f 34 (by decide) (by decide) (by decide)).1, (f 34 (by decide) (by decide) (by decide)).2]; exact M.a34
  · have hp14 : p = 14 ∨ 35 ≤ p := hp.ge
    rw [kn (p + 1) (by omega) (by omega), kn (p + 2) (by omega) (by omega), kn (p + 3) (by omega) (by omega), kn (p + 4) (by omega) (by omega), kn (p + 5) (by omega) (by omega)]
    exact (C.2.2.2.2 p hp).fr (fun j j1 j2 => fr j (by omega) (by omega) (by omega) (by omega))
  · unfold RelU
    rw [kn 21 (by decide) (by decide), kn 22 (by decide) (by decide), kn 23 (by decide) (by decide), kn 24 (by decide) (by decide), kn 3 (by decide) (by decide), kn 4 (by decide) (by decide), kn 5 (by decide) (by decide), kn 9 (by decide) (by decide)]
    exact RU
  · unfold RelG
    rw [kn 9 (by decide) (by decide), kn 10 (by decide) (by decide), kn 12 (by decide) (by decide), kn 27 (by decide) (by decide)]
    exact RG
  · unfold RelD
    rw [kn 6 (by decide) (by decide), kn 25 (by decide) (by decide)]
    refine ⟨fun r' d' h1 h2 h3 => ?_, fun r' d' h1 h2 => ?_, fun r' d' h1 h2 => ?_⟩
    · exact ⟨(RD.1 r' d' h1 h2 h3).1, key r' d' h1 h2 h3⟩
    · rw [ba] at h2
      by_cases e : r' = r ∧ d' = d
      · obtain ⟨rfl, rfl⟩ := e; exact ⟨d1, d2, r1, r2⟩
      · have : (decide (r' = r) && decide (d' = d)) = false := by
          rw [← Bool.not_eq_true, Bool.and_eq_true, decide_eq_true_eq, decide_eq_true_eq]; exact e
        rw [this, Bool.or_false] at h2
        exact RD.2.1 r' d' h1 h2
    · rw [bb] at h2
      by_cases e : r' = r ∧ d' = d
      · obtain ⟨rfl, rfl⟩ := e; exact ⟨d1, r1, r2⟩
      · have : (decide (r' = r) && decide (d' = d)) = false := by
          rw [← Bool.not_eq_true, Bool.and_eq_true, decide_eq_true_eq, decide_eq_true_eq]; exact e
        rw [this, Bool.or_false] at h2
        exact RD.2.2 r' d' h1 h2
  · exact RK.fr (Nat.le_refl c) (fun r' _ => by rw [kn 3 (by decide) (by decide), kn 4 (by decide) (by decide)]; exact ⟨rfl, rfl⟩) (fun j hj => kn j (by omega) (by omega))
  · unfold RelZ
    rw [kn 15 (by decide) (by decide), kn 19 (by decide) (by decide)]
    exact RZ
  · intro d' h1 h2
    rw [← ka, ← kb]
    exact key r d' (by omega) h1 h2

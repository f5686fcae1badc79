/-! buffer(data) -/
theorem orF_up {P : Nat → Bool} {i n : Nat} (h : orF P i = true) (hi : i ≤ n) : orF P n = true := by
  obtain ⟨r, r1, r2, r3⟩ := (orF_iff P i).mp h
  exact (orF_iff P n).mpr ⟨r, r1, by omega, r3⟩
theorem orF_at {P : Nat → Bool} {i n : Nat} (h : P i = true) (h1 : 1 ≤ i) (hi : i ≤ n) : orF P n = true := (orF_iff P n).mpr ⟨i, h1, hi, h⟩
theorem orF_and (b : Bool) (P : Nat → Bool) : ∀ n, orF (fun w => b && P w) n = (b && orF P n) := by
  intro n
  induction n with
  | zero => unfold orF; rw [Bool.and_false]
  | succ n ih => unfold orF; rw [ih, Bool.and_or_distrib_left]
/-- w writes on r's core and ranks above r -/
def pwF (co wr rk : Nat → Int32) (d r w : Nat) : Bool := bt (wr w) d && (decide (co w = co r) && !decide (rk w ≤ rk r))
section Bf
variable {h h1 : XH} {c : Nat} {pe co sp rd wr rk : Nat → Int32} {A : Nat → Nat → Int32} {cd : Int32} {tc B p T : Nat} {bu : Int32} {tO pO rO rw sO : Nat → Int32}
theorem written_loop (U : CU h c pe co sp rd wr) (P : CP h p T tO pO rO rw sO) (hc : c ≤ 24) (hr : ∀ r, 1 ≤ r → r ≤ c → xaI h (p + 3) (tO r) = some (rk r)) {d : Nat} (hd : d < 32) {r : Nat} (r1 : 1 ≤ r) (r2 : r ≤ c) : ∀ k i f, i + k = c → k < f → orF (pwF co wr rk d r) i = false → D_P_isWrittenAbove_16 f p (nI r) 2 (nI d) (rk r) (nI (i + 1)) h = some (b2i (orF (pwF co wr rk d r) c)) := by
  intro k
  induction k with
  | zero =>
    intro i f hi hf hn
    obtain ⟨f, rfl⟩ : ∃ g, f = g + 1 := ⟨f - 1, by omega⟩
    obtain rfl : i = c := by omega
    simp only [D_P_isWrittenAbove_16, U.c, xb1_some]
    rw [if_pos (nI_lt (by omega) (by omega)), hn]; rfl
  | succ k ih =>
    intro i f hi hf hn
    obtain ⟨f, rfl⟩ : ∃ g, f = g + 1 := ⟨f - 1, by omega⟩
    have hs := ih (i + 1) f (by omega) (by omega)
    have hq := @orF_at (pwF co wr rk d r) (i + 1) c
    rw [orF, hn, Bool.false_or] at hs
    simp only [D_P_isWrittenAbove_16, D_P_isWrittenAbove_59, D_P_isWrittenAbove_60, D_P_isWrittenAbove_86, U.c, U.w, U.k, P.ra, P.ta, xb1_some, xaI_at U.2.2.2.2.2 (show i + 1 < 25 by omega) (by decide), xaI_at U.2.2.1 (show i + 1 < 25 by omega) (by decide), xaI_at U.2.2.1 (show r < 25 by omega) (by decide), xaI_at P.2.1 (show i + 1 < 25 by omega) (by decide), hr (i + 1) (by omega) (by omega), isIn_eq _ d hd, w01i, nI_1]
    rw [if_neg (nI_nlt (by omega) (by omega))]
    rw [pwF] at hs hq
    by_cases q : bt (wr (i + 1)) d = true
    · rw [if_neg (fun z => z q)]
      by_cases e : co (i + 1) = co r
      · rw [if_pos e, if_neg (by decide)]
        by_cases w : rk (i + 1) ≤ rk r
        · rw [if_pos w]
          exact hs (by rw [decide_eq_true w, Bool.not_true, Bool.and_false, Bool.and_false])
        · rw [if_neg w, hq (by rw [q, decide_eq_true e, decide_eq_false w]; rfl) (by omega) (by omega)]; rfl
      · rw [if_neg e, if_pos trivial]
        exact hs (by rw [decide_eq_false e, Bool.false_and, Bool.and_false])
    · rw [if_pos q, if_pos trivial]
      have q : bt (wr (i + 1)) d = false := by simpa using q
      exact hs (by rw [q, Bool.false_and])
theorem written_eq (U : CU h c pe co sp rd wr) (P : CP h p T tO pO rO rw sO) (hc : c ≤ 24) (hr : ∀ r, 1 ≤ r → r ≤ c → xaI h (p + 3) (tO r) = some (rk r)) {d : Nat} (hd : d < 32) {r : Nat} (r1 : 1 ≤ r) (r2 : r ≤ c) : X_P_isWrittenAbove p (nI r) 2 (nI d) h = some (b2i (orF (pwF co wr rk d r) c)) := by
  unfold X_P_isWrittenAbove D_P_isWrittenAbove_0
  rw [P.ra, xb1_some, P.ta, xb1_some, xaI_at P.2.1 (show r < 25 by omega) (by decide), xb1_some, hr r r1 r2, xb1_some]
  exact written_loop U P hc hr hd r1 r2 c 0 5000 (by omega) (by omega) rfl
theorem copied_loop (U : CU h c pe co sp rd wr) (P : CP h p T tO pO rO rw sO) (hc : c ≤ 24) (hr : ∀ r, 1 ≤ r → r ≤ c → xaI h (p + 3) (tO r) = some (rk r)) {d : Nat} (hd : d < 32) : ∀ k i f, i + k = c → k < f → orF (fun r => bt (rd r) d && orF (pwF co wr rk d r) c) i = false → D_P_isCopied_2 f p 2 (nI d) (nI (i + 1)) h = some (b2i (orF (fun r => bt (rd r) d && orF (pwF co wr rk d r) c) c)) := by
  intro k
  induction k with
  | zero =>
    intro i f hi hf hn
    obtain ⟨f, rfl⟩ : ∃ g, f = g + 1 := ⟨f - 1, by omega⟩
    obtain rfl : i = c := by omega
    simp only [D_P_isCopied_2, U.c, xb1_some]
    rw [if_pos (nI_lt (by omega) (by omega)), hn]; rfl
  | succ k ih =>
    intro i f hi hf hn
    obtain ⟨f, rfl⟩ : ∃ g, f = g + 1 := ⟨f - 1, by omega⟩
    have hs := ih (i + 1) f (by omega) (by omega)
    have hq := @orF_at (fun r => bt (rd r) d && orF (pwF co wr rk d r) c) (i + 1) c
    rw [orF, hn, Bool.false_or] at hs
    simp only [D_P_isCopied_2, D_P_isCopied_35, U.c, U.r, xb1_some, xaI_at U.2.2.2.2.1 (show i + 1 < 25 by omega) (by decide), isIn_eq _ d hd, w01i, nI_1, P.i, xchk_true, written_eq U P hc hr hd (show 1 ≤ i + 1 by omega) (show i + 1 ≤ c by omega), b2i_0]
    rw [if_neg (nI_nlt (by omega) (by omega))]
    by_cases q : bt (rd (i + 1)) d = true
    · rw [if_neg (fun z => z q)]
      cases w : orF (pwF co wr rk d (i + 1)) c
      · rw [if_pos rfl]
        exact hs (by simp only [q, w]; rfl)
      · rw [if_neg (by decide), hq (by simp only [q, w]; rfl) (by omega) (by omega)]; rfl
    · rw [if_pos q]
      have q : bt (rd (i + 1)) d = false := by simpa using q
      exact hs (by simp only [q]; rfl)
/-- the same of the reference's rows -/
def mpF (A : Nat → Nat → Int32) (rk : Nat → Int32) (d r w : Nat) : Bool := bt (A 25 d) r && (bt (A 26 d) w && (decide (A 22 r = A 22 w) && !decide (rk w ≤ rk r)))
theorem mcopied_in (M : CM h A cd c tc bu B) (hc : c ≤ 24) (hr : ∀ r, 1 ≤ r → r ≤ c → X_M_rankOf 20 (A 34 r) h = some (rk r)) {d : Nat} (hd : d ≤ 20) {r : Nat} (r1 : 1 ≤ r) (r2 : r ≤ c) (a : Bool) (k4 : Nat → Int32 → Int32 → Int32 → XH → Option (Int32)) : ∀ k i f, i + k = c → k < f → D_M_isCopied_15 k4 f 20 (nI d) (b2i (a || orF (mpF A rk d r) i)) (nI r) (nI (i + 1)) h = k4 20 (nI d) (b2i (a || orF (mpF A rk d r) c)) (nI (r + 1)) h := by
  intro k
  induction k with
  | zero =>
    intro i f hi hf
    obtain ⟨f, rfl⟩ : ∃ g, f = g + 1 := ⟨f - 1, by omega⟩
    obtain rfl : i = c := by omega
    simp only [D_M_isCopied_15, M.gc, xb1_some, nI_1]
    rw [if_pos (nI_lt (by omega) (by omega))]
  | succ k ih =>
    intro i f hi hf
    obtain ⟨f, rfl⟩ : ∃ g, f = g + 1 := ⟨f - 1, by omega⟩
    have hs := ih (i + 1) f (by omega) (by omega)
    rw [orF, ← Bool.or_assoc] at hs
    simp only [D_M_isCopied_15, D_M_isCopied_73, D_M_isCopied_74, D_M_isCopied_109, D_M_isCopied_113, D_M_isCopied_114, M.gc, M.g3, M.g6, M.g7, M.g18, M.i, xchk_true, xb1_some, xaI_at M.a22 (show i + 1 < 25 by omega) (by decide), xaI_at M.a22 (show r < 25 by omega) (by decide), xaI_at M.a25 (show d < 21 by omega) (by decide), xaI_at M.a26 (show d < 21 by omega) (by decide), xaI_at M.a34 (show r < 25 by omega) (by decide), xaI_at M.a34 (show i + 1 < 25 by omega) (by decide), hr r r1 r2, hr (i + 1) (by omega) (by omega), b_shr_t _ (i + 1) (show i + 1 < 32 by omega), b_shr_t _ r (show r < 32 by omega), nI_1, b2i_0]
    rw [if_neg (nI_nlt (by omega) (by omega))]
    rw [mpF] at hs
    generalize (a || orF (mpF A rk d r) i) = b at hs ⊢
    by_cases e : A 22 r = A 22 (i + 1) <;> by_cases v : rk (i + 1) ≤ rk r <;> cases b <;> cases q : bt (A 25 d) r <;> cases w : bt (A 26 d) (i + 1) <;> simp only [e, v, q, w, decide_true, decide_false, Bool.not_true, Bool.not_false, Bool.true_and, Bool.false_and, Bool.and_true, Bool.and_false, Bool.or_true, Bool.or_false, Bool.true_or, Bool.false_or, if_true, if_false, Bool.true_eq_false, Bool.false_eq_true, show ¬ (1 : Int32) = 0 by decide] at hs ⊢ <;> exact hs
theorem mcopied_loop (M : CM h A cd c tc bu B) (hc : c ≤ 24) (hr : ∀ r, 1 ≤ r → r ≤ c → X_M_rankOf 20 (A 34 r) h = some (rk r)) {d : Nat} (hd : d ≤ 20) : ∀ k i f, i + k = c → k < f → D_M_isCopied_4 f 20 (nI d) (b2i (orF (fun r => orF (mpF A rk d r) c) i)) (nI (i + 1)) h = some (b2i (orF (fun r => orF (mpF A rk d r) c) c)) := by
  intro k
  induction k with
  | zero =>
    intro i f hi hf
    obtain ⟨f, rfl⟩ : ∃ g, f = g + 1 := ⟨f - 1, by omega⟩
    obtain rfl : i = c := by omega
    simp only [D_M_isCopied_4, M.gc, xb1_some]
    rw [if_pos (nI_lt (by omega) (by omega))]
    cases orF (fun r => orF (mpF A rk d r) i) i <;> rfl
  | succ k ih =>
    intro i f hi hf
    obtain ⟨f, rfl⟩ : ∃ g, f = g + 1 := ⟨f - 1, by omega⟩
    have hs := ih (i + 1) f (by omega) (by omega)
    rw [orF] at hs
    have mi := mcopied_in M hc hr hd (show 1 ≤ i + 1 by omega) (show i + 1 ≤ c by omega) (orF (fun r => orF (mpF A rk d r) c) i) (D_M_isCopied_4 f) c 0 5000 (by omega) (by omega)
    rw [orF, Bool.or_false] at mi
    have mi : D_M_isCopied_15 (D_M_isCopied_4 f) 5000 20 (nI d) (b2i (orF (fun r => orF (mpF A rk d r) c) i)) (nI (i + 1)) 1 h = _ := mi
    simp only [D_M_isCopied_4, M.gc, xb1_some, mi]
    rw [if_neg (nI_nlt (by omega) (by omega))]
    exact hs
end Bf
theorem op_buffer {m n : Nat} {h : XH} (I : Inv m n h) (x : Int32) : ∃ v h', X_T_buffer 1 x h = some v ∧ X_M_buffer 20 x h = some (v, h') ∧ Inv m n h' := by
  obtain ⟨A, PT, cd, c, tc, kc, B, bl, bu, C, hn, hB, RU, RG, RD, RK, RB, RZ⟩ := I
  have C1 := C.code
  have M1 := C1.2.2.2.1
  have I1 : Inv m n (va_up h 20 (mO 0 c (nI tc) bu (nI B))) := ⟨A, PT, 0, c, tc, kc, B, bl, bu, C1, hn, hB, RU, RG, RD, RK, RB, RZ⟩
  unfold X_T_buffer D_T_buffer_0 D_T_buffer_40 X_M_buffer D_M_buffer_0 D_M_buffer_45
  have w1 : ∀ g : XH, X_M_isIn x.toInt64 1 20 g = some (if 1 ≤ x ∧ x ≤ 20 then 1 else 0) := fun g => misIn32 x 1 20 1 20 rfl rfl g
  simp only [C.1.b, C.2.2.2.1.code0, xb1_some, M1.gbu, isDatum_eq, w1, w01i]
  by_cases q : 1 ≤ x ∧ x ≤ 20
  · simp only [if_neg (fun z => z q : ¬ ¬ (1 ≤ x ∧ x ≤ 20))]
    rcases built_cases C RB with ⟨rfl, rfl⟩ | ⟨p, T, S, W, K, Q, rfl, rfl, b2, P, bw, pl, bk, al⟩
    · exact ⟨-3, _, rfl, rfl, I1⟩
    · simp only [xq_some, if_neg (show ¬ (1 : Int32) = 0 by decide), C.1.u, xb1_some, M1.i, P.i, xchk_true]
      obtain ⟨d, d1, d2, rfl⟩ := in_rng (c := 20) (by decide) q
      have hc := RU.1
      have hT := bw.1
      obtain ⟨rk, hrk⟩ : ∃ rk : Nat → Int32, ∀ r, rk r = (A (p + 3)) (A 34 r).toNatClampNeg := ⟨fun r => (A (p + 3)) (A 34 r).toNatClampNeg, fun _ => rfl⟩
      have hr : ∀ r, 1 ≤ r → r ≤ c → ∃ t, t < T ∧ A 34 r = nI (t + 1) ∧ A (p + 1) r = nI (t + 1) ∧ rk r = nI (rkF K T (t + 1) (T + 1 - (t + 1))) := by
        intro r r1 r2
        obtain ⟨t, i, t1, t2, t3, t4, t5⟩ := al r r1 r2
        refine ⟨t, t1, t5, ?_, ?_⟩
        · rw [← t4, pl.2.2.2.2.2.1 t i t1 t2 t3]
        · rw [hrk, t5, nI_clamp (by omega), pl.2.2.2.2.1 (t + 1) (by omega) (by omega)]
      have hr1 : ∀ r, 1 ≤ r → r ≤ c → xaI h (p + 3) (A (p + 1) r) = some (rk r) := by
        intro r r1 r2
        obtain ⟨t, t1, t2, t3, t4⟩ := hr r r1 r2
        rw [t3, xaI_at P.2.2.2.1 (show t + 1 < 25 by omega) (by decide), hrk, t2, nI_clamp (by omega)]
      have hr2 : ∀ r, 1 ≤ r → r ≤ c → X_M_rankOf 20 (A 34 r) (va_up h 20 (mO 0 c (nI tc) 1 (nI B))) = some (rk r) := by
        intro r r1 r2
        obtain ⟨t, t1, t2, t3, t4⟩ := hr r r1 r2
        rw [t2, rankOf_eq M1 bk hT (show 1 ≤ t + 1 by omega) (show t + 1 ≤ T by omega), t4]
      have l1 : X_P_isCopied p 2 (nI d) h = _ := copied_loop C.2.1 P hc hr1 (show d < 32 by omega) c 0 5000 (by omega) (by omega) rfl
      have l2 : X_M_isCopied 20 (nI d) (va_up h 20 (mO 0 c (nI tc) 1 (nI B))) = some (b2i (orF (fun r => orF (mpF A rk d r) c) c)) := mcopied_loop M1 hc hr2 d2 c 0 5000 (by omega) (by omega)
      have e : orF (fun r => bt (A 6 r) d && orF (pwF (A 4) (A 7) rk d r) c) c = orF (fun r => orF (mpF A rk d r) c) c := by
        rw [Bool.eq_iff_iff, orF_iff, orF_iff]
        have ee : ∀ r, 1 ≤ r → r ≤ c → (bt (A 6 r) d && orF (pwF (A 4) (A 7) rk d r) c) = orF (mpF A rk d r) c := by
          intro r r1 r2
          rw [show mpF A rk d r = fun w => bt (A 25 d) r && (bt (A 26 d) w && (decide (A 22 r = A 22 w) && !decide (rk w ≤ rk r))) from rfl, orF_and, (RD.1 r d (by omega) d1 d2).1]
          congr 1
          rw [Bool.eq_iff_iff, orF_iff, orF_iff]
          have e3 : ∀ w, 1 ≤ w → w ≤ c → pwF (A 4) (A 7) rk d r w = (bt (A 26 d) w && (decide (A 22 r = A 22 w) && !decide (rk w ≤ rk r))) := by
            intro w w1 w2
            unfold pwF
            rw [(RD.1 w d (by omega) d1 d2).2, RU.2.2.1]
            congr 2
            exact decide_eq_decide.mpr eq_comm
          constructor
          · rintro ⟨w, w1, w2, w3⟩
            exact ⟨w, w1, w2, by rw [← e3 w w1 w2]; exact w3⟩
          · rintro ⟨w, w1, w2, w3⟩
            exact ⟨w, w1, w2, by rw [e3 w w1 w2]; exact w3⟩
        constructor
        · rintro ⟨w, w1, w2, w3⟩
          exact ⟨w, w1, w2, by rw [← ee w w1 w2]; exact w3⟩
        · rintro ⟨w, w1, w2, w3⟩
          exact ⟨w, w1, w2, by rw [ee w w1 w2]; exact w3⟩
      rw [e] at l1
      simp only [l1, l2, xb1_some, b2i_0]
      cases orF (fun r => orF (mpF A rk d r) c) c
      · exact ⟨0, _, rfl, rfl, I1⟩
      · exact ⟨1, _, rfl, rfl, I1⟩
  · simp only [if_pos q]
    exact ⟨-2, _, rfl, rfl, I1⟩

/-! the state behind the constructors, and the law's loop -/
theorem z_wk (n a b : Nat) : ¬ Wk (fun _ => 0) (n + 1) a b := by
  rintro ⟨x, e, -⟩
  rw [b_0] at e
  cases e
theorem init_eq : ∃ h4 h9 : XH, X_T_init (0 + 1) (0 + 1) (va_up (fun _ => xN) (0 + 1) (.inr (0, [.null, .null, .null, .int 0, .null, .null]))) = some (19, h4) ∧ X_M_init (19 + 1) (19 + 1) (va_up h4 (19 + 1) (.inr (4, [.int 0, .int 0, .null, .null, .null, .null, .null, .null, .int 0, .null, .null, .int 0, .int 0, .null, .null, .null, .null, .null, .null]))) = some (34, h9) ∧ Inv 0 34 h9 := by
  refine ⟨_, _, rfl, rfl, fun _ _ => 0, fun _ => 0, 0, 0, 0, 0, 0, none, 0, ⟨⟨rfl, ?_⟩, ⟨rfl, rfl, rfl, rfl, rfl, rfl⟩, ⟨rfl, rfl, rfl, rfl, rfl⟩, ⟨rfl, rfl, rfl, rfl, rfl, rfl, rfl, rfl, rfl, rfl, rfl, rfl, rfl, rfl, rfl⟩, fun p hp => ?_⟩, rfl, Nat.le_refl 0, ⟨by omega, rfl, rfl, rfl, rfl, fun r a b => by omega⟩, ⟨⟨fun a b h => ?_, fun a b _ => ⟨fun h => ?_, fun ⟨n, h⟩ => absurd h (z_wk n a b)⟩, fun n a => z_wk n a a⟩, by omega, fun j hj => absurd hj (Nat.not_lt_zero j)⟩, ⟨fun r d _ _ _ => ⟨(b_0 d).trans (b_0 r).symm, (b_0 d).trans (b_0 r).symm⟩, fun r d _ h => ?_, fun r d _ h => ?_⟩, ⟨rfl, fun i hi => absurd hi (Nat.not_lt_zero i)⟩, RelB.none _ _ _ _, rfl, fun _ _ _ => rfl⟩
  · rw [show kfF 0 = fun _ => none from by
      funext i
      exact if_neg (by omega)]
    rfl
  · rcases hp with rfl | ⟨i, hi, -⟩
    · exact ⟨rfl, rfl, rfl, rfl, rfl, rfl⟩
    · exact absurd hi (Nat.not_lt_zero i)
  · rw [b_0] at h; cases h
  · rw [b_0] at h; cases h
  · rcases h with h | h <;> (rw [b_0] at h; cases h)
  · rcases h with h | h <;> (rw [b_0] at h; cases h)
theorem Inv.t {m n : Nat} {h : XH} (I : Inv m n h) : xis h 0 1 = true := by
  obtain ⟨A, PT, cd, c, tc, kc, B, bl, bu, C, -⟩ := I
  exact C.1.i
theorem Inv.mi {m n : Nat} {h : XH} (I : Inv m n h) : xis h 4 20 = true := by
  obtain ⟨A, PT, cd, c, tc, kc, B, bl, bu, C, -⟩ := I
  exact C.2.2.2.1.i
theorem Inv.up {m n : Nat} {h : XH} (I : Inv m n h) : Inv (m + 1) n h := by
  obtain ⟨A, PT, cd, c, tc, kc, B, bl, bu, C, hn, hB, R⟩ := I
  exact ⟨A, PT, cd, c, tc, kc, B, bl, bu, C, hn, by omega, R⟩
theorem law_loop (L : Nat) (hL : L ≤ 2048) (xs : Nat → Int32) : ∀ f m n (h : XH), m ≤ 512 → 513 < f + m → Inv m n h → D_law_18 L xs f 1 20 (nI (4 * m)) n h = some () := by
  intro f
  induction f with
  | zero => intro m n h h1 h2 _; omega
  | succ f ih =>
    intro m n h h1 h2 I
    by_cases q : ((Int32.ofNat L) - (4 : Int32)) < nI (4 * m)
    · simp only [D_law_18]
      rw [if_pos q]
    · have q' : 4 * m + 4 ≤ L := by
        rw [Int32.lt_iff_toInt_lt, show (Int32.ofNat L - (4 : Int32)).toInt = (L : Int) - (4 : Nat) from pk_sub_toInt (a := L) (b := 4) (by omega) (by omega), nI_toInt (by omega)] at q
        omega
      have nx : nI (4 * m) + 4 = nI (4 * (m + 1)) := by rw [show 4 * (m + 1) = 4 * m + 4 by omega]; exact nI_add _ 4
      have go : ∀ n' h', Inv (m + 1) n' h' → D_law_18 L xs f 1 20 (nI (4 * m) + 4) n' h' = some () := fun n' h' I' => by
        rw [nx]
        exact ih (m + 1) n' h' (by omega) (by omega) I'
      have sc : ∀ j, j < L → xsc L xs (nI j) = some (xs j) := fun j hj => by
        unfold xsc
        rw [if_pos (n_in hj (by omega)), nI_clamp (by omega)]
      have v0 := sc (4 * m) (by omega)
      have v1 : xsc L xs (nI (4 * m) + 1) = some (xs (4 * m + 1)) := by rw [show nI (4 * m) + (1 : Int32) = nI (4 * m + 1) from nI_add _ 1]; exact sc _ (by omega)
      have v2 : xsc L xs (nI (4 * m) + 2) = some (xs (4 * m + 2)) := by rw [show nI (4 * m) + (2 : Int32) = nI (4 * m + 2) from nI_add _ 2]; exact sc _ (by omega)
      have v3 : xsc L xs (nI (4 * m) + 3) = some (xs (4 * m + 3)) := by rw [show nI (4 * m) + (3 : Int32) = nI (4 * m + 3) from nI_add _ 3]; exact sc _ (by omega)
      have hm : m < 2 ^ 30 := by omega
      simp only [D_law_18, D_law_515, D_law_167, D_law_194, v0, v1, v2, v3, xb1_some, I.t, I.mi, xchk_true]
      rw [if_neg q]
      generalize xs (4 * m) &&& 15 = o
      generalize xs (4 * m + 1) = a
      generalize xs (4 * m + 2) = b
      generalize xs (4 * m + 3) = d
      by_cases o0 : o = 0
      · rw [if_pos o0]
        obtain ⟨v, h1, h', e1, e2, e3, e4⟩ := op_runnable I a b d
        rw [e1, xb2_some, e2, xchk_true, e3, xb2_some, if_pos rfl]
        exact go n h' e4.up
      rw [if_neg o0]
      by_cases o1 : o = 1
      · rw [if_pos o1]
        by_cases z : d = 0
        · rw [if_pos z]
          obtain ⟨v, h1, h', e1, e2, e3, e4⟩ := op_needs I a b 0
          rw [e1, xb2_some, if_pos z, e2, xchk_true, e3, xb2_some, if_pos rfl]
          exact go n h' e4.up
        · rw [if_neg z]
          obtain ⟨v, h1, h', e1, e2, e3, e4⟩ := op_needs I a b 1
          rw [e1, xb2_some, if_neg z, e2, xchk_true, e3, xb2_some, if_pos rfl]
          exact go n h' e4.up
      rw [if_neg o1]
      by_cases o2 : o = 2
      · rw [if_pos o2]
        obtain ⟨v, h1, h', e1, e2, e3, e4⟩ := op_area I a b
        rw [e1, xb2_some, e2, xchk_true, e3, xb2_some, if_pos rfl]
        exact go n h' e4.up
      rw [if_neg o2]
      by_cases o3 : o = 3
      · rw [if_pos o3]
        obtain ⟨v, n', h1, h', e1, e2, e3, e4⟩ := op_build I hm
        rw [e1, xb3_some, e2, xchk_true, e3, xb2_some, if_pos rfl]
        exact go n' h' e4
      rw [if_neg o3]
      by_cases o4 : o = 4
      · rw [if_pos o4]
        obtain ⟨v, h', e1, e3, e4⟩ := op_task I a
        rw [e1, xb1_some, e3, xb2_some, if_pos rfl]
        exact go n h' e4.up
      rw [if_neg o4]
      by_cases o5 : o = 5
      · rw [if_pos o5]
        obtain ⟨v, h', e1, e3, e4⟩ := op_order I a b
        rw [e1, xb1_some, e3, xb2_some, if_pos rfl]
        exact go n h' e4.up
      rw [if_neg o5]
      by_cases o6 : o = 6
      · rw [if_pos o6]
        obtain ⟨v, h', e1, e3, e4⟩ := op_rank I a
        rw [e1, xb1_some, e3, xb2_some, if_pos rfl]
        exact go n h' e4.up
      rw [if_neg o6]
      by_cases o7 : o = 7
      · rw [if_pos o7]
        obtain ⟨v, h', e1, e3, e4⟩ := op_buffer I a
        rw [e1, xb1_some, e3, xb2_some, if_pos rfl]
        exact go n h' e4.up
      rw [if_neg o7]
      by_cases o8 : o = 8
      · rw [if_pos o8]
        obtain ⟨v, h', e1, e3, e4⟩ := op_table I a b
        rw [e1, xb1_some, e3, xb2_some, if_pos rfl]
        exact go n h' e4.up
      rw [if_neg o8]
      by_cases o9 : o = 9
      · rw [if_pos o9]
        obtain ⟨v, h', e1, e3, e4⟩ := op_ring I a
        rw [e1, xb1_some, e3, xb2_some, if_pos rfl]
        exact go n h' e4.up
      rw [if_neg o9]
      by_cases o10 : o = 10
      · rw [if_pos o10]
        obtain ⟨v, h', e1, e3, e4⟩ := op_cross I a
        rw [e1, xb1_some, e3, xb2_some, if_pos rfl]
        exact go n h' e4.up
      rw [if_neg o10]
      by_cases o11 : o = 11
      · rw [if_pos o11]
        obtain ⟨v, h', e1, e3, e4⟩ := op_budget I a ((b.toInt64 <<< ((32 : Int32).toInt64 &&& 63)) ||| (d.toInt64 &&& (4294967295 : Int64)))
        rw [e1, xb1_some, e3, xb2_some, if_pos rfl]
        exact go n h' e4.up
      rw [if_neg o11]
      by_cases o12 : o = 12
      · rw [if_pos o12]
        obtain ⟨v, h', e1, e3, e4⟩ := op_differ I (by omega) a
        rw [e1, xb1_some, e3, xb2_some, if_pos rfl]
        exact go n h' e4.up
      rw [if_neg o12]
      exact go n h I.up
theorem law_pure (L : Nat) (hL : L ≤ 2048) (xs : Nat → Int32) : D_law_0 L xs 0 (fun _ => xN) = some () := by
  obtain ⟨h4, h9, e1, e2, I⟩ := init_eq
  unfold D_law_0
  rw [xb1_some, e1, xb2_some, xb1_some, e2, xb2_some]
  exact law_loop L hL xs 600 0 34 h9 (by omega) (by omega) I
/-- from the entry, for every script of at most 2048 ints, the law comes to its end with true -/
theorem whole_start {p : Program} {e : Env} {s : State} {m : MethodId} {below : List Frame} {meth : Method} {c : Code} (l : Launch) {b L : Nat} {xs : Nat → Int32} (hL : L ≤ 2048) (C0 : lw_At p s m meth c b L xs) : W p l e room_1 s m #[Value.ref b] below meth c s.heap [] 0 0 (lw_Z below #[Value.ref b] s) (entryFrame m ([Value.ref b] : List Value).toArray 4) := start_of l C0 (law_pure L hL xs)

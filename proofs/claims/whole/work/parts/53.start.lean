/-- from the entry: if the printed function answers, the law comes to its end with true -/
theorem start_of {p : Program} {e : Env} {s : State} {m : MethodId} {below : List Frame} {meth : Method} {c : Code} (l : Launch) {b L : Nat} {xs : Nat → Int32} (C0 : lw_At p s m meth c b L xs) (hE : D_law_0 L xs 0 (fun _ => xN) = some ()) : W p l e room_1 s m #[Value.ref b] below meth c s.heap [] 0 0 (lw_Z below #[Value.ref b] s) (entryFrame m ([Value.ref b] : List Value).toArray 4) := by
  obtain ⟨hx, hb, hr, hml, hown, hts, hX, hbl, hlocks, hgv⟩ := id C0
  have hA : ∀ q : Nat, s.heap.size ≤ q → (fun q : Nat => s.heap.size ≤ q) q := fun _ h => h
  have hbA : ¬ (fun q : Nat => s.heap.size ≤ q) b := Nat.not_le.mpr hbl
  have htx : ∀ w ∈ XTs, w.before #[Value.ref b] s = true := fun w hw => hts w (xTs_tbl w hw)
  obtain ⟨c0, i0, k0⟩ := u_known (C := R_T) (T := T_T) (N := 6) (n := 6) htx iws_T (htx _ xt_instT)
  obtain ⟨c1, i1, k1⟩ := u_known (C := R_U) (T := T_U) (N := 6) (n := 6) htx iws_U (htx _ xt_instU)
  obtain ⟨c2, i2, k2⟩ := u_known (C := R_G) (T := T_G) (N := 5) (n := 5) htx iws_G (htx _ xt_instG)
  obtain ⟨c3, i3, k3⟩ := u_known (C := R_P) (T := T_P) (N := 6) (n := 6) htx iws_P (htx _ xt_instP)
  obtain ⟨c4, i4, k4⟩ := u_known (C := R_M) (T := T_M) (N := 19) (n := 19) htx iws_M (htx _ xt_instM)
  obtain ⟨dC, dI, hKc⟩ : ∃ (dC : Nat → ClassId) (dI : Nat → Nat → Nat), ∀ (k : Nat) (q : vw_C), XCL[k]? = some q → u_Kn s q.1 q.2.1 q.2.2 (dC k) (dI k) := by
    refine ⟨fun k => if k = 0 then c0 else if k = 1 then c1 else if k = 2 then c2 else if k = 3 then c3 else c4, fun k => if k = 0 then i0 else if k = 1 then i1 else if k = 2 then i2 else if k = 3 then i3 else i4, ?_⟩
    intro k q hq
    match k, hq with
    | 0, hq => cases hq; exact k0
    | 1, hq => cases hq; exact k1
    | 2, hq => cases hq; exact k2
    | 3, hq => cases hq; exact k3
    | 4, hq => cases hq; exact k4
    | k + 5, hq => simp [XCL] at hq
  have hK : va_K (dC, dI) XCL [] s := ⟨hKc, fun k q h => by simp at h⟩
  have hNW : ∀ w ∈ XNW, va_Nw w s := by
    intro w hw
    have h1 := hts w (xT_tbl xNW_tbl0 hw)
    rcases xNW_good w hw with ⟨a, i, b', n, d, g, rfl⟩ | ⟨a, i, y, g, rfl⟩
    · exact va_Nw.of rfl h1
    · exact va_Nw.of rfl h1
  have hAO : ∀ C ∈ XAL, va_AO C s := by
    intro C hC
    simp only [XAL, List.mem_cons, List.not_mem_nil, or_false] at hC
    subst hC
    exact va_AO.of (hts _ xt_over)
  have hC : XC p s m #[Value.ref b] c code 4 R_L XTs XCL XNW XAL (dC, dI) (fun q => s.heap.size ≤ q) := ⟨⟨hx, hb, hml, hown, htx⟩, hK, hA, hNW, hAO, xNW_good, xTs_good⟩
  have hl := lv_entry ([.ref b]) (n := 4) (Nat.le_of_ble_eq_true rfl)
  rw [lg_entry_eq]
  have hP : va_P (dC, dI) XCL (xw (fun _ => b) (fun _ => 0) 0 (fun _ => xN)) s.heap := fun k q h => by simp [xw] at h
  have hD : va_D (fun q : Nat => s.heap.size ≤ q) (xw (fun _ => b) (fun _ => 0) 0 (fun _ => xN)) := ⟨fun i j p q h => by simp [xw] at h, fun k q h => by simp [xw] at h⟩
  have hR : xR (dC, dI) XCL (fun q => s.heap.size ≤ q) s 0 (fun _ => xN) (fun _ => b) (fun _ => 0) s.heap := ⟨hP, hD, fun k => xl_nil, fun k ty a h => absurd h.symm (xN_inl _), fun _ _ => rfl⟩
  exact s_law_0 (ad0 := fun _ => b) (n0 := 0) hC hX hbl hbA rfl hr hlocks 0 (fun _ => xN) hE (fun _ => b) (fun _ => 0) s.heap [] _ (fun _ _ => rfl) (Nat.le_refl 0) hR va_S.rf (by intro q hq; rcases List.mem_cons.mp hq with z | z; (rw [z]; exact Nat.le_refl 0); cases z) xl_nil hl

/-! ===== Int32 by its bits: bt x i ===== -/
def bt (x : Int32) (i : Nat) : Bool := x.toBitVec.getLsbD i
theorem b_ext {x y : Int32} (h : ∀ i, i < 32 → bt x i = bt y i) : x = y := Int32.toBitVec_inj.mp (BitVec.eq_of_getLsbD_eq (fun i hi => h i hi))
theorem b_or (x y : Int32) (i : Nat) : bt (x ||| y) i = (bt x i || bt y i) := by unfold bt; rw [Int32.toBitVec_or, BitVec.getLsbD_or]
theorem b_and (x y : Int32) (i : Nat) : bt (x &&& y) i = (bt x i && bt y i) := by unfold bt; rw [Int32.toBitVec_and, BitVec.getLsbD_and]
theorem b_xor (x y : Int32) (i : Nat) : bt (x ^^^ y) i = (bt x i ^^ bt y i) := by unfold bt; rw [Int32.toBitVec_xor, BitVec.getLsbD_xor]
theorem b_big {x : Int32} {i : Nat} (h : 32 ≤ i) : bt x i = false := BitVec.getLsbD_of_ge _ _ h
theorem b_255 (i : Nat) : bt 255 i = decide (i < 8) := by
  rcases Nat.lt_or_ge i 32 with h | h
  · exact (by decide +kernel : ∀ i, i < 32 → bt 255 i = decide (i < 8)) i h
  · rw [b_big h, decide_eq_false (by omega)]
theorem b_65535 (i : Nat) : bt 65535 i = decide (i < 16) := by
  rcases Nat.lt_or_ge i 32 with h | h
  · exact (by decide +kernel : ∀ i, i < 32 → bt 65535 i = decide (i < 16)) i h
  · rw [b_big h, decide_eq_false (by omega)]
theorem b_m1 : ∀ i, i < 32 → bt (-1) i = true := by decide +kernel
theorem b_0 (i : Nat) : bt 0 i = false := BitVec.getLsbD_zero
theorem s_l : ∀ n, n < 32 → ((nI n &&& 31).toBitVec.smod 32).toNat = n := by decide +kernel
theorem s_u : ∀ n, n < 32 → (((nI n).toUInt32 &&& Int32.toUInt32 31).toBitVec % 32).toNat = n := by decide +kernel
theorem b_shl (n : Nat) (hn : n < 32) (x : Int32) {i : Nat} (hi : i < 32) : bt (x <<< (nI n &&& 31)) i = (decide (n ≤ i) && bt x (i - n)) := by
  unfold bt
  rw [Int32.toBitVec_shiftLeft]
  show (x.toBitVec <<< ((nI n &&& 31).toBitVec.smod 32).toNat).getLsbD i = _
  rw [s_l n hn, BitVec.getLsbD_shiftLeft]
  rcases Nat.lt_or_ge i n with h | h
  · simp [h, Nat.not_le.mpr h]
  · simp [hi, h, Nat.not_lt.mpr h]
theorem b_ushr (n : Nat) (hn : n < 32) (x : Int32) (i : Nat) : bt ((x.toUInt32 >>> ((nI n).toUInt32 &&& Int32.toUInt32 31)).toInt32) i = bt x (n + i) := by
  show (x.toUInt32 >>> ((nI n).toUInt32 &&& Int32.toUInt32 31)).toBitVec.getLsbD i = x.toUInt32.toBitVec.getLsbD (n + i)
  rw [UInt32.toBitVec_shiftRight]
  show (x.toUInt32.toBitVec >>> (((nI n).toUInt32 &&& Int32.toUInt32 31).toBitVec % 32).toNat).getLsbD i = _
  rw [s_u n hn, BitVec.getLsbD_ushiftRight]
theorem b_sshr (n : Nat) (hn : n < 32) (x : Int32) {i : Nat} (hi : i < 32) : bt (x >>> (nI n &&& 31)) i = if n + i < 32 then bt x (n + i) else bt x 31 := by
  unfold bt
  rw [Int32.toBitVec_shiftRight]
  show (x.toBitVec.sshiftRight ((nI n &&& 31).toBitVec.smod 32).toNat).getLsbD i = _
  rw [s_l n hn, BitVec.getLsbD_sshiftRight, BitVec.msb_eq_getLsbD_last]
  simp [hi]
theorem b_shl8 (x : Int32) {i : Nat} (hi : i < 32) : bt (x <<< ((8 : Int32) &&& 31)) i = (decide (8 ≤ i) && bt x (i - 8)) := b_shl 8 (by omega) x hi
theorem b_shl16 (x : Int32) {i : Nat} (hi : i < 32) : bt (x <<< ((16 : Int32) &&& 31)) i = (decide (16 ≤ i) && bt x (i - 16)) := b_shl 16 (by omega) x hi
theorem b_shl24 (x : Int32) {i : Nat} (hi : i < 32) : bt (x <<< ((24 : Int32) &&& 31)) i = (decide (24 ≤ i) && bt x (i - 24)) := b_shl 24 (by omega) x hi
theorem b_sshr8 (x : Int32) {i : Nat} (hi : i < 32) : bt (x >>> ((8 : Int32) &&& 31)) i = if 8 + i < 32 then bt x (8 + i) else bt x 31 := b_sshr 8 (by omega) x hi


theorem b_one : ∀ i, i < 32 → bt 1 i = decide (i = 0) := by decide +kernel
theorem b_sh (n : Nat) (hn : n < 32) {i : Nat} (hi : i < 32) : bt ((1 : Int32) <<< (nI n &&& 31)) i = decide (i = n) := by
  rw [b_shl n hn 1 hi, b_one _ (by omega)]
  rcases Nat.lt_trichotomy i n with h | h | h
  · rw [decide_eq_false (show ¬ n ≤ i by omega), decide_eq_false (show ¬ i = n by omega)]; rfl
  · subst h; simp
  · rw [decide_eq_false (show ¬ i - n = 0 by omega), decide_eq_false (show ¬ i = n by omega)]; simp
theorem b_zero {x : Int32} : x = 0 ↔ ∀ i, i < 32 → bt x i = false := by
  constructor
  · intro h i _; rw [h]; exact b_0 i
  · intro h; exact b_ext fun i hi => by rw [h i hi, b_0]
theorem b_isin (x : Int32) (n : Nat) (hn : n < 32) : (x &&& ((1 : Int32) <<< (nI n &&& 31))) = 0 ↔ bt x n = false := by
  rw [b_zero]
  constructor
  · intro h
    have := h n hn
    rw [b_and, b_sh n hn hn] at this
    simpa using this
  · intro h i hi
    rw [b_and, b_sh n hn hi]
    by_cases e : i = n
    · subst e; rw [h]; rfl
    · rw [decide_eq_false e]; simp
theorem b_shr1 (x : Int32) (n : Nat) (hn : n < 32) : ((x >>> (nI n &&& 31)) &&& 1) = if bt x n = true then 1 else 0 := by
  apply b_ext
  intro i hi
  rw [b_and, b_one i hi, b_sshr n hn x hi]
  by_cases e : i = 0
  · subst e
    have : n + 0 < 32 := by omega
    rw [if_pos this]
    cases hb : bt x n
    · simp [hb, b_0]
    · simp [hb, b_one]
  · rw [decide_eq_false e]
    cases hb : bt x n
    · simp [b_0]
    · simp [b_one i hi, e]
theorem b_shr_t (x : Int32) (n : Nat) (hn : n < 32) : ((x >>> (nI n &&& 31)) &&& 1) = 1 ↔ bt x n = true := by
  rw [b_shr1 x n hn]
  cases bt x n <;> decide
theorem b_shr_f (x : Int32) (n : Nat) (hn : n < 32) : ((x >>> (nI n &&& 31)) &&& 1) = 0 ↔ bt x n = false := by
  rw [b_shr1 x n hn]
  cases bt x n <;> decide
theorem b_and0 {x y : Int32} : (x &&& y) = 0 ↔ ∀ i, i < 32 → ¬ (bt x i = true ∧ bt y i = true) := by
  rw [b_zero]
  constructor
  · intro h i hi ⟨h1, h2⟩
    have := h i hi
    rw [b_and, h1, h2] at this
    cases this
  · intro h i hi
    rw [b_and]
    have := h i hi
    cases h1 : bt x i <;> cases h2 : bt y i <;> simp_all
theorem b_not (x : Int32) (n : Nat) (hn : n < 32) {i : Nat} (hi : i < 32) : bt (x &&& (((1 : Int32) <<< (nI n &&& 31)) ^^^ (-1))) i = (bt x i && !decide (i = n)) := by
  rw [b_and, b_xor, b_sh n hn hi, b_m1 i hi]
  simp
/-! numbers -/
theorem n_in {i n : Nat} (hi : i < n) (hn : n < 2 ^ 31) : xin (nI i) n := ⟨nI_pos (by omega), by rw [nI_clamp (by omega)]; exact hi⟩
theorem xaI_at {h : XH} {r n i : Nat} {f : Nat → Int32} (e : h r = .inl (.int, (n, .inl f))) (hi : i < n) (hn : n < 2 ^ 31) : xaI h r (nI i) = some (f i) := by
  unfold xaI
  rw [e]
  simp only
  rw [if_pos (n_in hi hn), nI_clamp (by omega)]
theorem xaS_at {h : XH} {r n i : Nat} {f : Nat → Int32} {x : Int32} (e : h r = .inl (.int, (n, .inl f))) (hi : i < n) (hn : n < 2 ^ 31) : xaS h r (nI i) x = some (va_up h r (.inl (.int, (n, .inl (upd f i x))))) := by
  unfold xaS
  rw [e]
  simp only
  rw [if_pos (n_in hi hn), nI_clamp (by omega)]
theorem xaN_at {h : XH} {r n : Nat} {f : Nat → Int32} (e : h r = .inl (.int, (n, .inl f))) : xaN h r = some (nI n) := by
  unfold xaN
  rw [e]
  rfl
theorem xis_at {h : XH} {r ci : Nat} {fs : List Value} (e : h r = .inr (ci, fs)) : xis h ci r = true := by
  unfold xis
  rw [e]
  simp
theorem xg_at {h : XH} {r ci k : Nat} {fs : List Value} {v : Value} (e : h r = .inr (ci, fs)) (hv : fs[k]? = some v) : xg h ci k r = some v := by
  unfold xg
  rw [e]
  simp [hv]
theorem xgI_at {h : XH} {r ci k : Nat} {fs : List Value} {x : Int32} (e : h r = .inr (ci, fs)) (hv : fs[k]? = some (.int x)) : xgI h ci k r = some x := by
  unfold xgI
  rw [xg_at e hv]
theorem xgR_at {h : XH} {r ci k q : Nat} {fs : List Value} (e : h r = .inr (ci, fs)) (hv : fs[k]? = some (.ref q)) : xgR h ci k r = some q := by
  unfold xgR
  rw [xg_at e hv]
theorem xgQ_at {h : XH} {r ci k : Nat} {fs : List Value} {q : Option Nat} (e : h r = .inr (ci, fs)) (hv : fs[k]? = some (va_rf q)) : xgQ h ci k r = some q := by
  unfold xgQ
  rw [xg_at e hv]
  cases q <;> rfl
theorem xp_at {h : XH} {r ci k : Nat} {fs : List Value} {v : Value} (e : h r = .inr (ci, fs)) (hk : k < fs.length) : xp h ci k r v = some (va_up h r (.inr (ci, fs.set k v))) := by
  unfold xp
  rw [e]
  simp [hk]
theorem up_s {h : XH} {k : Nat} {e : XE} : va_up h k e k = e := va_up_self _ _ _
theorem up_n {h : XH} {k j : Nat} {e : XE} (hj : j ≠ k) : va_up h k e j = h j := va_up_ne _ _ hj
theorem w01 (P : Prop) [Decidable P] : xzb (if P then 1 else 0) = true := by
  by_cases h : P <;> simp [h] <;> decide
theorem w01i (P : Prop) [Decidable P] : ((if P then (1 : Int32) else 0) = 0) ↔ ¬ P := by
  by_cases h : P <;> simp [h]
theorem isWithin_eq (x a b : Int32) (h : XH) : X_T_isWithin x a b h = some (if a ≤ x ∧ x ≤ b then 1 else 0) := by
  unfold X_T_isWithin D_T_isWithin_0 D_T_isWithin_14 D_T_isWithin_15
  have e1 : x < a ↔ ¬ a ≤ x := by rw [Int32.lt_iff_toInt_lt, Int32.le_iff_toInt_le]; omega
  have e2 : b < x ↔ ¬ x ≤ b := by rw [Int32.lt_iff_toInt_lt, Int32.le_iff_toInt_le]; omega
  by_cases h1 : a ≤ x
  · rw [if_neg (by rw [e1]; exact fun q => q h1)]
    by_cases h2 : x ≤ b
    · rw [if_neg (by rw [e2]; exact fun q => q h2), if_pos ⟨h1, h2⟩]; rfl
    · rw [if_pos (e2.mpr h2), if_neg (fun q => h2 q.2)]; rfl
  · rw [if_pos (e1.mpr h1), if_neg (fun q => h1 q.1)]; rfl
theorem isDatum_eq (x : Int32) (h : XH) : X_T_isDatum x h = some (if 1 ≤ x ∧ x ≤ 20 then 1 else 0) := by
  unfold X_T_isDatum D_T_isDatum_0
  rw [isWithin_eq, xb1_some, w01]
  rfl
theorem isIn_eq (x : Int32) (n : Nat) (hn : n < 32) (h : XH) : X_T_isIn x (nI n) h = some (if bt x n = true then 1 else 0) := by
  unfold X_T_isIn D_T_isIn_0 D_T_isIn_13
  by_cases hb : bt x n = true
  · rw [if_neg (by rw [b_isin x n hn, hb]; decide), if_pos hb]; rfl
  · rw [if_pos (by rw [b_isin x n hn]; simpa using hb), if_neg hb]; rfl
theorem lg_toI64_lt (x y : Int32) : x.toInt64 < y.toInt64 ↔ x < y := by rw [Int64.lt_iff_toInt_lt, Int32.lt_iff_toInt_lt, Int32.toInt_toInt64, Int32.toInt_toInt64]
theorem misIn_eq (x a b : Int64) (h : XH) : X_M_isIn x a b h = some (if a ≤ x ∧ x ≤ b then 1 else 0) := by
  unfold X_M_isIn D_M_isIn_0 D_M_isIn_17 D_M_isIn_18
  have e1 : lg_cmp x a < 0 ↔ ¬ a ≤ x := by
    rw [← lg_cmp_ge x a, Int32.lt_iff_toInt_lt, Int32.le_iff_toInt_le]; omega
  have e2 : 0 < lg_cmp x b ↔ ¬ x ≤ b := by
    unfold lg_cmp
    by_cases h1 : x > b
    · rw [if_pos h1]
      refine ⟨fun _ => ?_, fun _ => by decide⟩
      rw [gt_iff_lt, Int64.lt_iff_toInt_lt] at h1
      rw [Int64.le_iff_toInt_le]; omega
    · rw [if_neg h1]
      rw [gt_iff_lt, Int64.lt_iff_toInt_lt] at h1
      rw [Int64.le_iff_toInt_le]
      by_cases h2 : x = b
      · rw [if_pos h2]
        exact ⟨fun q => absurd q (by decide), fun q => absurd (by omega) q⟩
      · rw [if_neg h2]
        exact ⟨fun q => absurd q (by decide), fun q => absurd (by omega) q⟩
  by_cases h1 : a ≤ x
  · rw [if_neg (by rw [e1]; exact fun q => q h1)]
    by_cases h2 : x ≤ b
    · rw [if_neg (by rw [e2]; exact fun q => q h2), if_pos ⟨h1, h2⟩]; rfl
    · rw [if_pos (e2.mpr h2), if_neg (fun q => h2 q.2)]; rfl
  · rw [if_pos (e1.mpr h1), if_neg (fun q => h1 q.1)]; rfl
theorem l_le (x y : Int32) : x.toInt64 ≤ y.toInt64 ↔ x ≤ y := by rw [Int64.le_iff_toInt_le, Int32.le_iff_toInt_le, Int32.toInt_toInt64, Int32.toInt_toInt64]
theorem misIn32 (x a b : Int32) (A B : Int64) (hA : a.toInt64 = A) (hB : b.toInt64 = B) (h : XH) : X_M_isIn x.toInt64 A B h = some (if a ≤ x ∧ x ≤ b then 1 else 0) := by
  subst hA; subst hB
  rw [misIn_eq]
  simp only [l_le]

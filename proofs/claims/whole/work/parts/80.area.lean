/-! Integer.bitCount -/
theorem nI_and (a b : Nat) : nI a &&& nI b = nI (a &&& b) := by
  apply Int32.toBitVec_inj.mp
  rw [Int32.toBitVec_and]
  show BitVec.ofNat 32 a &&& BitVec.ofNat 32 b = BitVec.ofNat 32 (a &&& b)
  exact BitVec.ofNat_and.symm
theorem land_byte (x m : Nat) : x &&& m = 256 * ((x / 256) &&& (m / 256)) + ((x % 256) &&& (m % 256)) := by
  have h1 : (x &&& m) / 256 = (x / 256) &&& (m / 256) := by
    have := Nat.shiftRight_and_distrib (a := x) (b := m) (i := 8)
    simpa [Nat.shiftRight_eq_div_pow] using this
  have h2 : (x &&& m) % 256 = (x % 256) &&& (m % 256) := Nat.and_mod_two_pow (n := 8)
  rw [← h1, ← h2]
  omega
theorem bc_chain (x0 s1 s2 s3 s4 s5 : Int32) (h : XH) (e1 : s1 = x0 - (((x0.toUInt32 >>> ((1 : Int32).toUInt32 &&& Int32.toUInt32 31)).toInt32) &&& (1431655765 : Int32))) (e2 : s2 = (s1 &&& (858993459 : Int32)) + (((s1.toUInt32 >>> ((2 : Int32).toUInt32 &&& Int32.toUInt32 31)).toInt32) &&& (858993459 : Int32))) (e3 : s3 = (s2 + ((s2.toUInt32 >>> ((4 : Int32).toUInt32 &&& Int32.toUInt32 31)).toInt32)) &&& (252645135 : Int32)) (e4 : s4 = s3 + ((s3.toUInt32 >>> ((8 : Int32).toUInt32 &&& Int32.toUInt32 31)).toInt32)) (e5 : s5 = s4 + ((s4.toUInt32 >>> ((16 : Int32).toUInt32 &&& Int32.toUInt32 31)).toInt32)) : X_J_bitCount x0 h = some (s5 &&& 63) := by
  subst e5 e4 e3 e2 e1
  rfl
theorem land3 {X M m : Nat} (hX : X < 2 ^ 24) (h0 : M % 256 = m) (h1 : M / 256 % 256 = m) (h2 : M / 256 / 256 % 256 = m) : X &&& M = (X % 256 &&& m) + 256 * (X / 256 % 256 &&& m) + 65536 * (X / 65536 &&& m) := by
  have a := land_byte X M
  have b := land_byte (X / 256) (M / 256)
  have c := land_byte (X / 256 / 256) (M / 256 / 256)
  rw [h0] at a
  rw [h1] at b
  rw [h2] at c
  have z : X / 256 / 256 / 256 = 0 := by omega
  rw [z, Nat.zero_and] at c
  have y : X / 65536 = X / 256 / 256 % 256 := by omega
  rw [y]
  omega
def c8F (b : Nat) : Nat := b - (b / 2 &&& 85)
def d8F (b : Nat) : Nat := (c8F b &&& 51) + (c8F b / 4 &&& 51)
def n8F (b : Nat) : Nat := (if b.testBit 0 = true then 1 else 0) + (if b.testBit 1 = true then 1 else 0) + (if b.testBit 2 = true then 1 else 0) + (if b.testBit 3 = true then 1 else 0) + (if b.testBit 4 = true then 1 else 0) + (if b.testBit 5 = true then 1 else 0) + (if b.testBit 6 = true then 1 else 0) + (if b.testBit 7 = true then 1 else 0)
theorem t8_1 : ∀ b, b < 256 → ∀ q, q < 2 → (b / 2 + 128 * q) &&& 85 = b / 2 &&& 85 := by decide +kernel
theorem t8_2 : ∀ b, b < 256 → ∀ q, q < 4 → (b / 4 + 64 * q) &&& 51 = b / 4 &&& 51 := by decide +kernel
theorem t8_3 : ∀ b, b < 256 → d8F b % 16 ≤ 4 ∧ d8F b / 16 ≤ 4 ∧ d8F b % 16 + d8F b / 16 = n8F b ∧ c8F b + (b / 2 &&& 85) = b := by decide +kernel
theorem st1 {x b0 b1 b2 : Nat} (e : x = b0 + 256 * b1 + 65536 * b2) (h0 : b0 < 256) (h1 : b1 < 256) (h2 : b2 < 256) : (x / 2 &&& 1431655765) = (b0 / 2 &&& 85) + 256 * (b1 / 2 &&& 85) + 65536 * (b2 / 2 &&& 85) := by
  have a0 : x / 2 % 256 = b0 / 2 + 128 * (b1 % 2) := by omega
  have a1 : x / 2 / 256 % 256 = b1 / 2 + 128 * (b2 % 2) := by omega
  have a2 : x / 2 / 65536 = b2 / 2 := by omega
  rw [land3 (X := x / 2) (M := 1431655765) (m := 85) (by omega) (by decide) (by decide) (by decide), a0, a1, a2, t8_1 b0 h0 _ (Nat.mod_lt _ (by decide)), t8_1 b1 h1 _ (Nat.mod_lt _ (by decide))]
theorem st2 {x b0 b1 b2 : Nat} (e : x = b0 + 256 * b1 + 65536 * b2) (h0 : b0 < 256) (h1 : b1 < 256) (h2 : b2 < 256) : (x &&& 858993459) = (b0 &&& 51) + 256 * (b1 &&& 51) + 65536 * (b2 &&& 51) ∧ (x / 4 &&& 858993459) = (b0 / 4 &&& 51) + 256 * (b1 / 4 &&& 51) + 65536 * (b2 / 4 &&& 51) := by
  have a0 : x / 4 % 256 = b0 / 4 + 64 * (b1 % 4) := by omega
  have a1 : x / 4 / 256 % 256 = b1 / 4 + 64 * (b2 % 4) := by omega
  have a2 : x / 4 / 65536 = b2 / 4 := by omega
  have c0 : x % 256 = b0 := by omega
  have c1 : x / 256 % 256 = b1 := by omega
  have c2 : x / 65536 = b2 := by omega
  constructor
  · rw [land3 (X := x) (M := 858993459) (m := 51) (by omega) (by decide) (by decide) (by decide), c0, c1, c2]
  · rw [land3 (X := x / 4) (M := 858993459) (m := 51) (by omega) (by decide) (by decide) (by decide), a0, a1, a2, t8_2 b0 h0 _ (Nat.mod_lt _ (by decide)), t8_2 b1 h1 _ (Nat.mod_lt _ (by decide))]
theorem st3 {x u0 w0 u1 w1 u2 w2 : Nat} (e : x = (16 * w0 + u0) + 256 * (16 * w1 + u1) + 65536 * (16 * w2 + u2)) (h0 : u0 ≤ 4 ∧ w0 ≤ 4) (h1 : u1 ≤ 4 ∧ w1 ≤ 4) (h2 : u2 ≤ 4 ∧ w2 ≤ 4) : (x + x / 16) &&& 252645135 = (u0 + w0) + 256 * (u1 + w1) + 65536 * (u2 + w2) := by
  have a : x / 16 = w0 + 16 * u1 + 256 * w1 + 4096 * u2 + 65536 * w2 := by omega
  have b : x + x / 16 = (u0 + w0) + 16 * (w0 + u1) + 256 * (u1 + w1) + 4096 * (w1 + u2) + 65536 * (u2 + w2) + 1048576 * w2 := by omega
  have a15 : ∀ y : Nat, y &&& 15 = y % 16 := fun y => Nat.and_two_pow_sub_one_eq_mod y 4
  generalize x + x / 16 = X at b ⊢
  clear a e
  have d1 : X / 256 = (u1 + w1) + 16 * (w1 + u2) + 256 * (u2 + w2) + 4096 * w2 := by omega
  have d2 : X / 65536 = (u2 + w2) + 16 * w2 := by omega
  rw [land3 (X := X) (M := 252645135) (m := 15) (by omega) (by decide) (by decide) (by decide), a15, a15, a15]
  have c0 : X % 256 % 16 = u0 + w0 := by omega
  have c1 : X / 256 % 256 % 16 = u1 + w1 := by rw [d1]; clear b d1 d2 c0; omega
  have c2 : X / 65536 % 16 = u2 + w2 := by rw [d2]; clear b d1 d2 c0 c1; omega
  rw [c0, c1, c2]
theorem st4 {e0 e1 e2 s : Nat} (e : s = e0 + 256 * e1 + 65536 * e2) (h0 : e0 ≤ 8) (h1 : e1 ≤ 8) (h2 : e2 ≤ 8) : (s + s / 256 + (s + s / 256) / 65536) % 64 = e0 + e1 + e2 := by
  have a : s / 256 = e1 + 256 * e2 := by omega
  rw [a]
  have b : s + (e1 + 256 * e2) = (e0 + e1) + 256 * (e1 + e2) + 65536 * e2 := by omega
  rw [b]
  have d : ((e0 + e1) + 256 * (e1 + e2) + 65536 * e2) / 65536 = e2 := by omega
  rw [d]
  omega
theorem st5 {b : Nat} (hb : b < 256) : c8F b < 256 ∧ d8F b < 256 := by
  obtain ⟨a, c, -, d⟩ := t8_3 b hb
  omega
theorem st6 {x g0 g1 g2 c0 c1 c2 b0 b1 b2 : Nat} (e : x = b0 + 256 * b1 + 65536 * b2) (h0 : c0 + g0 = b0) (h1 : c1 + g1 = b1) (h2 : c2 + g2 = b2) : x - (g0 + 256 * g1 + 65536 * g2) = c0 + 256 * c1 + 65536 * c2 ∧ g0 + 256 * g1 + 65536 * g2 ≤ x := by omega
theorem bc_nat {x b0 b1 b2 : Nat} (e : x = b0 + 256 * b1 + 65536 * b2) (h0 : b0 < 256) (h1 : b1 < 256) (h2 : b2 < 256) (h : XH) : X_J_bitCount (nI x) h = some (nI (n8F b0 + n8F b1 + n8F b2)) := by
  obtain ⟨p0, q0, r0, w0⟩ := t8_3 b0 h0
  obtain ⟨p1, q1, r1, w1⟩ := t8_3 b1 h1
  obtain ⟨p2, q2, r2, w2⟩ := t8_3 b2 h2
  have k0 := st5 h0
  have k1 := st5 h1
  have k2 := st5 h2
  have v1 := st1 e h0 h1 h2
  obtain ⟨es1, le1⟩ := st6 e w0 w1 w2
  rw [← v1] at es1 le1
  have hx : x < 2 ^ 24 := by omega
  obtain ⟨s1, hs1⟩ : ∃ s1, s1 = c8F b0 + 256 * c8F b1 + 65536 * c8F b2 := ⟨_, rfl⟩
  have b1' : s1 < 2 ^ 24 := by omega
  obtain ⟨v2, v3⟩ := st2 hs1 k0.1 k1.1 k2.1
  have es2 : (s1 &&& 858993459) + (s1 / 4 &&& 858993459) = d8F b0 + 256 * d8F b1 + 65536 * d8F b2 := by
    rw [v2, v3]
    unfold d8F
    omega
  obtain ⟨s2, hs2⟩ : ∃ s2, s2 = d8F b0 + 256 * d8F b1 + 65536 * d8F b2 := ⟨_, rfl⟩
  have b2' : s2 < 2 ^ 24 := by omega
  have es3 := st3 (x := s2) (u0 := d8F b0 % 16) (w0 := d8F b0 / 16) (u1 := d8F b1 % 16) (w1 := d8F b1 / 16) (u2 := d8F b2 % 16) (w2 := d8F b2 / 16) (by rw [Nat.div_add_mod, Nat.div_add_mod, Nat.div_add_mod]; exact hs2) ⟨p0, q0⟩ ⟨p1, q1⟩ ⟨p2, q2⟩
  rw [r0, r1, r2] at es3
  have y0 : n8F b0 ≤ 8 := by omega
  have y1 : n8F b1 ≤ 8 := by omega
  have y2 : n8F b2 ≤ 8 := by omega
  obtain ⟨s3, hs3⟩ : ∃ s3, s3 = n8F b0 + 256 * n8F b1 + 65536 * n8F b2 := ⟨_, rfl⟩
  have b3' : s3 < 2 ^ 24 := by omega
  have es4 := st4 hs3 y0 y1 y2
  rw [← hs1] at es1
  rw [← hs2] at es2
  rw [← hs3] at es3
  have g4 : s3 + s3 / 256 < 2 ^ 32 := by omega
  have a63 : ∀ y : Nat, y &&& 63 = y % 64 := fun y => Nat.and_two_pow_sub_one_eq_mod y 6
  have fin := bc_chain (nI x) (nI s1) (nI s2) (nI s3) (nI (s3 + s3 / 256)) (nI (s3 + s3 / 256 + (s3 + s3 / 256) / 65536)) h
    (by rw [pk_ushrN (Nat.lt_trans hx (by decide)) 1 1 (by decide), show (1431655765 : Int32) = nI 1431655765 from rfl, nI_and, show x / 2 ^ 1 = x / 2 from rfl, pk_sub le1, es1])
    (by rw [pk_ushrN (Nat.lt_trans b1' (by decide)) 2 2 (by decide), show (858993459 : Int32) = nI 858993459 from rfl, nI_and, nI_and, nI_add, show s1 / 2 ^ 2 = s1 / 4 from rfl, es2])
    (by rw [pk_ushrN (Nat.lt_trans b2' (by decide)) 4 4 (by decide), show (252645135 : Int32) = nI 252645135 from rfl, nI_add, nI_and, show s2 / 2 ^ 4 = s2 / 16 from rfl, es3])
    (by rw [pk_ushrN (Nat.lt_trans b3' (by decide)) 8 8 (by decide), nI_add, show s3 / 2 ^ 8 = s3 / 256 from rfl])
    (by rw [pk_ushrN g4 16 16 (by decide), nI_add, show (s3 + s3 / 256) / 2 ^ 16 = (s3 + s3 / 256) / 65536 from rfl])
  rw [fin, show (63 : Int32) = nI 63 from rfl, nI_and, a63, es4]
theorem bt_nI {x : Nat} (hx : x < 2 ^ 32) (i : Nat) : bt (nI x) i = x.testBit i := by
  unfold bt
  show (BitVec.ofNat 32 x).toNat.testBit i = _
  rw [BitVec.toNat_ofNat, Nat.mod_eq_of_lt hx]
theorem bc_eq (S : Int32) (hS : ∀ i, bt S i = true → 1 ≤ i ∧ i ≤ 20) (h : XH) : X_J_bitCount S h = some (nI (cntB S 20)) := by
  obtain ⟨x, hx, rfl⟩ : ∃ x, x < 2 ^ 32 ∧ S = nI x := ⟨S.toBitVec.toNat, S.toBitVec.isLt, by
    apply Int32.toBitVec_inj.mp
    apply BitVec.eq_of_toNat_eq
    rw [pk_tn S.toBitVec.isLt]⟩
  have hb : ∀ i, x.testBit i = true → 1 ≤ i ∧ i ≤ 20 := fun i hi => hS i (by rw [bt_nI hx]; exact hi)
  have hx2 : x < 2 ^ 21 := by
    apply Nat.lt_pow_two_of_testBit
    intro i hi
    cases q : x.testBit i
    · rfl
    · have := hb i q; omega
  have f : ∀ i, ¬ (1 ≤ i ∧ i ≤ 20) → x.testBit i = false := fun i hi => by
    cases q : x.testBit i
    · rfl
    · exact absurd (hb i q) hi
  rw [bc_nat (b0 := x % 256) (b1 := x / 256 % 256) (b2 := x / 65536) (by omega) (by omega) (by omega) (by omega) h]
  have c : cntB (nI x) 20 = n8F (x % 256) + n8F (x / 256 % 256) + n8F (x / 65536) := by
    have m0 : ∀ i, i < 8 → (x % 256).testBit i = x.testBit i := fun i hi => by
      rw [show 256 = 2 ^ 8 from rfl, Nat.testBit_mod_two_pow, decide_eq_true hi, Bool.true_and]
    have m1 : ∀ i, i < 8 → (x / 256 % 256).testBit i = x.testBit (8 + i) := fun i hi => by
      rw [show 256 = 2 ^ 8 from rfl, Nat.testBit_mod_two_pow, decide_eq_true hi, Bool.true_and, Nat.testBit_div_two_pow, Nat.add_comm]
    have m2 : ∀ i, (x / 65536).testBit i = x.testBit (16 + i) := fun i => by
      rw [show 65536 = 2 ^ 16 from rfl, Nat.testBit_div_two_pow, Nat.add_comm]
    unfold n8F
    rw [m0 0 (by decide), m0 1 (by decide), m0 2 (by decide), m0 3 (by decide), m0 4 (by decide), m0 5 (by decide), m0 6 (by decide), m0 7 (by decide), m1 0 (by decide), m1 1 (by decide), m1 2 (by decide), m1 3 (by decide), m1 4 (by decide), m1 5 (by decide), m1 6 (by decide), m1 7 (by decide), m2 0, m2 1, m2 2, m2 3, m2 4, m2 5, m2 6, m2 7, f 0 (by decide), f (16 + 5) (by decide), f (16 + 6) (by decide), f (16 + 7) (by decide)]
    simp only [cntB, bt_nI hx]
    simp only [Nat.add_zero, Nat.reduceAdd, Bool.false_eq_true, if_false]
    omega
  rw [c]


/-! chances of at most 1.0 -/
open FP.Core in
theorem gfMul {a b : UInt64} (ha : a.toNat % 2 ^ 63 ≤ 1023 * 2 ^ 52) (hb : b.toNat % 2 ^ 63 < 2047 * 2 ^ 52) : (FP.dmul a b).toNat % 2 ^ 63 ≤ b.toNat % 2 ^ 63 := by
  have hf := good_b64
  have h0 : (FP.dmul a b).toNat = mul b64 a.toNat b.toNat := toNat_of64 (round_fits good_b64 _)
  have i0 := infBits_b64
  obtain ⟨s, c, q, x1, x2, x3⟩ := fin_of_mag hf (n := a.toNat) (by rw [mag_toNat64, i0]; omega)
  obtain ⟨t, d, r, y1, y2, y3⟩ := fin_of_mag hf (n := b.toNat) (by rw [mag_toNat64, i0]; omega)
  obtain ⟨p1, p2, p3⟩ := product_units x2 y2
  have hd : decode b64 (mul b64 a.toNat b.toNat) = roundRatio b64 (s != t) (c * d) 1 (q + r) := by
    unfold mul
    rw [decode_enc hf (round_fits hf _), x1, y1, p1]; rfl
  have hq := qmin_neg hf
  have key : mag b64 (mul b64 a.toNat b.toNat) ≤ b.toNat % 2 ^ 63 := by
    refine mag_le hf hd (by decide) (e0 := 2 * b64.qmin) (by omega) p2 ?_
    rw [p3, x3, y3, mag_toNat64, mag_toNat64, Nat.mul_one, Nat.mul_comm]
    refine Nat.mul_le_mul_left _ ?_
    have h1 : unitsOf b64 (a.toNat % 2 ^ 63) ≤ unitsOf b64 (1023 * b64.tails) := unitsOf_le_iff.mpr (by rw [tails_b64]; exact ha)
    rw [unitsOf_start (by decide)] at h1
    refine Nat.le_trans h1 ?_
    rw [qmin_b64, tails_b64]
    decide +kernel
  rw [← mag_toNat64, h0]
  exact key


open FP.Core in
theorem gfDiv {a b : UInt64} (ha : a.toNat % 2 ^ 63 ≤ b.toNat % 2 ^ 63) (hb : b.toNat % 2 ^ 63 < 2047 * 2 ^ 52) (hb0 : 0 < b.toNat % 2 ^ 63) : (FP.ddiv a b).toNat % 2 ^ 63 ≤ 1023 * 2 ^ 52 := by
  have hf := good_b64
  have h0 : (FP.ddiv a b).toNat = div b64 a.toNat b.toNat := toNat_of64 (quotient_fits good_b64 _ _)
  have i0 := infBits_b64
  obtain ⟨s, c, q, x1, x2, x3⟩ := fin_of_mag hf (n := a.toNat) (by rw [mag_toNat64, i0]; omega)
  obtain ⟨t, d, r, y1, y2, y3⟩ := fin_of_mag hf (n := b.toNat) (by rw [mag_toNat64, i0]; omega)
  have hq := qmin_neg hf
  have hzz : zmag b64 (.fin s c q) ≤ zmag b64 (.fin t d r) := by rw [x3, y3, mag_toNat64, mag_toNat64]; exact unitsOf_le_iff.mpr ha
  have hd0 : d ≠ 0 := by
    rintro rfl
    have h1 : zmag b64 (.fin t 0 r) = 0 := Nat.zero_mul _
    rw [h1, mag_toNat64] at y3
    have h2 : unitsOf b64 0 < unitsOf b64 (b.toNat % 2 ^ 63) := unitsOf_lt_iff.mpr hb0
    omega
  have hd : decode b64 (div b64 a.toNat b.toNat) = roundRatio b64 (s != t) c d (q - r) := by
    unfold div
    rw [decode_enc hf (quotient_fits hf _ _), x1, y1]
    simp only [quotient, if_neg hd0]
  have hx1 := x2.2.1
  have hy1 := y2.2.1
  have key : mag b64 (div b64 a.toNat b.toNat) ≤ 1023 * 2 ^ 52 := by
    refine mag_le hf hd (by omega) (e0 := 2 * b64.qmin - r) (by omega) (by omega) ?_
    have e1 : inUnits c (q - r) (2 * b64.qmin - r) = zmag b64 (.fin s c q) * 2 ^ (-b64.qmin).toNat := by
      show c * _ = c * _ * _
      rw [Nat.mul_assoc, ← Nat.pow_add]; congr 2; omega
    have e2 : 2 ^ (b64.qmin - (2 * b64.qmin - r)).toNat * d = zmag b64 (.fin t d r) := by
      show _ = d * _
      rw [Nat.mul_comm]; congr 2; omega
    have e3 : unitsOf b64 (1023 * 2 ^ 52) = 2 ^ (-b64.qmin).toNat := by
      rw [← tails_b64, unitsOf_start (by decide), qmin_b64, tails_b64]
      decide +kernel
    rw [e1, Nat.mul_assoc, e2, e3, Nat.mul_comm]
    exact Nat.mul_le_mul_left _ hzz
  rw [← mag_toNat64, h0]
  exact key
theorem gfR : ∀ r, r < 101 → (FP.i2d (nI r)).toNat % 2 ^ 63 ≤ 4636737291354636288 := by decide +kernel
theorem gfStep {a : UInt64} (ha : a.toNat % 2 ^ 63 ≤ 1023 * 2 ^ 52) {r : Nat} (hr : r < 101) : (FP.ddiv (FP.dmul a (FP.i2d (nI r))) 4636737291354636288).toNat % 2 ^ 63 ≤ 1023 * 2 ^ 52 := by
  have h1 := gfR r hr
  exact gfDiv (Nat.le_trans (gfMul ha (by omega)) (Nat.le_trans h1 (by decide))) (by decide) (by decide)
theorem gfLs (c : Nat → Bool) (f : Nat → Int32) : ∀ n, (∀ k, k < n → ∃ r, r < 101 ∧ f k = nI r) → (zlsF c f n 0).toNat % 2 ^ 63 ≤ 1023 * 2 ^ 52
  | 0, _ => show (4607182418800017408 : UInt64).toNat % 2 ^ 63 ≤ 1023 * 2 ^ 52 by decide
  | n + 1, h => by
    have ih := gfLs c f n (fun k hk => h k (by omega))
    obtain ⟨r, hr, er⟩ := h n (by omega)
    unfold zlsF
    by_cases e : c n = true
    · rw [if_pos e, er]
      exact gfStep ih hr
    · rw [if_neg e]
      exact ih
open FP.Core in
theorem gfAdd {a : UInt64} (ha : a.toNat % 2 ^ 63 ≤ 1023 * 2 ^ 52) : FP.dcmp (FP.dadd 0 a) 4607182423303617035 ≠ some .gt := fun h => by
  have fa : DFin a := (fin_bits a).mpr (by omega)
  have fz : DZero 0 := (zero_bits2 0).mpr (by decide)
  have e := (dadd_zero_eq fa fz).2
  have h1 := dcmp_eq.mp e
  have h2 := dcmp_gt.mp h
  rw [h1.2.2] at h2
  have h3 : FP.dcmp a 4607182423303617035 = some .gt := dcmp_gt.mpr ⟨h1.2.1, h2.2.1, h2.2.2⟩
  rw [dcmp_gt_key h1.2.1 h2.2.1] at h3
  have k1 : dkey 4607182423303617035 = 4607182423303617035 := by decide +kernel
  rw [k1] at h3
  unfold dkey at h3
  have := a.toNat_lt
  split at h3 <;> omega
/-- the law's own number is 1.000001 -/
theorem gfLo {V : Nat → Nat → Int32} {nk si : Nat} (h1 : V (200 + si) 0 = nI 1) (hr : ∀ k, k < nk → ∃ r, r < 101 ∧ V (100 + k) 3 = nI r) : FP.dcmp (qLo V nk si) 4607182423303617035 ≠ some .gt := by
  unfold qLo
  rw [h1, nI_clamp (by decide)]
  exact gfAdd (gfLs _ _ nk hr)


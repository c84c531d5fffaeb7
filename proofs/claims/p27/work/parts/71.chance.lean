
/-! chances of at most 1.0 -/
theorem gfMul {a b : UInt64} (ha : a.toNat % 2 ^ 63 ≤ 1023 * 2 ^ 52) (hb : b.toNat % 2 ^ 63 < 2047 * 2 ^ 52) : (FP.dmul a b).toNat % 2 ^ 63 ≤ b.toNat % 2 ^ 63 := by
  have hf := FP.Core.good_b64
  have h0 : (FP.dmul a b).toNat = FP.Core.mul FP.Core.b64 a.toNat b.toNat := FP.Core.toNat_of64 (FP.Core.round_fits FP.Core.good_b64 _)
  have i0 := FP.Core.infBits_b64
  obtain ⟨s, c, q, x1, x2, x3⟩ := FP.Core.fin_of_mag hf (n := a.toNat) (by rw [FP.Core.mag_toNat64, i0]; omega)
  obtain ⟨t, d, r, y1, y2, y3⟩ := FP.Core.fin_of_mag hf (n := b.toNat) (by rw [FP.Core.mag_toNat64, i0]; omega)
  obtain ⟨p1, p2, p3⟩ := FP.Core.product_units x2 y2
  have hd : FP.Core.decode FP.Core.b64 (FP.Core.mul FP.Core.b64 a.toNat b.toNat) = FP.Core.roundRatio FP.Core.b64 (s != t) (c * d) 1 (q + r) := by
    unfold FP.Core.mul
    rw [FP.Core.decode_enc hf (FP.Core.round_fits hf _), x1, y1, p1]; rfl
  have hq := FP.Core.qmin_neg hf
  have key : FP.Core.mag FP.Core.b64 (FP.Core.mul FP.Core.b64 a.toNat b.toNat) ≤ b.toNat % 2 ^ 63 := by
    refine FP.Core.mag_le hf hd (by decide) (e0 := 2 * FP.Core.b64.qmin) (by omega) p2 ?_
    rw [p3, x3, y3, FP.Core.mag_toNat64, FP.Core.mag_toNat64, Nat.mul_one, Nat.mul_comm]
    refine Nat.mul_le_mul_left _ ?_
    have h1 : FP.Core.unitsOf FP.Core.b64 (a.toNat % 2 ^ 63) ≤ FP.Core.unitsOf FP.Core.b64 (1023 * FP.Core.b64.tails) := FP.Core.unitsOf_le_iff.mpr (by rw [FP.Core.tails_b64]; exact ha)
    rw [FP.Core.unitsOf_start (by decide)] at h1
    refine Nat.le_trans h1 ?_
    rw [FP.Core.qmin_b64, FP.Core.tails_b64]
    decide +kernel
  rw [← FP.Core.mag_toNat64, h0]
  exact key


theorem gfDiv {a b : UInt64} (ha : a.toNat % 2 ^ 63 ≤ b.toNat % 2 ^ 63) (hb : b.toNat % 2 ^ 63 < 2047 * 2 ^ 52) (hb0 : 0 < b.toNat % 2 ^ 63) : (FP.ddiv a b).toNat % 2 ^ 63 ≤ 1023 * 2 ^ 52 := by
  have hf := FP.Core.good_b64
  have h0 : (FP.ddiv a b).toNat = FP.Core.div FP.Core.b64 a.toNat b.toNat := FP.Core.toNat_of64 (FP.Core.quotient_fits FP.Core.good_b64 _ _)
  have i0 := FP.Core.infBits_b64
  obtain ⟨s, c, q, x1, x2, x3⟩ := FP.Core.fin_of_mag hf (n := a.toNat) (by rw [FP.Core.mag_toNat64, i0]; omega)
  obtain ⟨t, d, r, y1, y2, y3⟩ := FP.Core.fin_of_mag hf (n := b.toNat) (by rw [FP.Core.mag_toNat64, i0]; omega)
  have hq := FP.Core.qmin_neg hf
  have hzz : FP.Core.zmag FP.Core.b64 (.fin s c q) ≤ FP.Core.zmag FP.Core.b64 (.fin t d r) := by rw [x3, y3, FP.Core.mag_toNat64, FP.Core.mag_toNat64]; exact FP.Core.unitsOf_le_iff.mpr ha
  have hd0 : d ≠ 0 := by
    rintro rfl
    have h1 : FP.Core.zmag FP.Core.b64 (.fin t 0 r) = 0 := Nat.zero_mul _
    rw [h1, FP.Core.mag_toNat64] at y3
    have h2 : FP.Core.unitsOf FP.Core.b64 0 < FP.Core.unitsOf FP.Core.b64 (b.toNat % 2 ^ 63) := FP.Core.unitsOf_lt_iff.mpr hb0
    omega
  have hd : FP.Core.decode FP.Core.b64 (FP.Core.div FP.Core.b64 a.toNat b.toNat) = FP.Core.roundRatio FP.Core.b64 (s != t) c d (q - r) := by
    unfold FP.Core.div
    rw [FP.Core.decode_enc hf (FP.Core.quotient_fits hf _ _), x1, y1]
    simp only [FP.Core.quotient, if_neg hd0]
  have hx1 := x2.2.1
  have hy1 := y2.2.1
  have key : FP.Core.mag FP.Core.b64 (FP.Core.div FP.Core.b64 a.toNat b.toNat) ≤ 1023 * 2 ^ 52 := by
    refine FP.Core.mag_le hf hd (by omega) (e0 := 2 * FP.Core.b64.qmin - r) (by omega) (by omega) ?_
    have e1 : FP.Core.inUnits c (q - r) (2 * FP.Core.b64.qmin - r) = FP.Core.zmag FP.Core.b64 (.fin s c q) * 2 ^ (-FP.Core.b64.qmin).toNat := by
      show c * _ = c * _ * _
      rw [Nat.mul_assoc, ← Nat.pow_add]; congr 2; omega
    have e2 : 2 ^ (FP.Core.b64.qmin - (2 * FP.Core.b64.qmin - r)).toNat * d = FP.Core.zmag FP.Core.b64 (.fin t d r) := by
      show _ = d * _
      rw [Nat.mul_comm]; congr 2; omega
    have e3 : FP.Core.unitsOf FP.Core.b64 (1023 * 2 ^ 52) = 2 ^ (-FP.Core.b64.qmin).toNat := by
      rw [← FP.Core.tails_b64, FP.Core.unitsOf_start (by decide), FP.Core.qmin_b64, FP.Core.tails_b64]
      decide +kernel
    rw [e1, Nat.mul_assoc, e2, e3, Nat.mul_comm]
    exact Nat.mul_le_mul_left _ hzz
  rw [← FP.Core.mag_toNat64, h0]
  exact key
theorem gfR : ∀ r, r < 101 → (FP.i2d (nI r)).toNat % 2 ^ 63 ≤ 4636737291354636288 := by decide +kernel
theorem gfStep {a : UInt64} (ha : a.toNat % 2 ^ 63 ≤ 1023 * 2 ^ 52) {r : Nat} (hr : r < 101) : (FP.ddiv (FP.dmul a (FP.i2d (nI r))) 4636737291354636288).toNat % 2 ^ 63 ≤ 1023 * 2 ^ 52 := by
  have h1 := gfR r hr
  exact gfDiv (Nat.le_trans (gfMul ha (by omega)) (Nat.le_trans h1 (by decide))) (by decide) (by decide)
theorem gfLs (c : Nat → Bool) (f : Nat → Int32) : ∀ n, (∀ k, k < n → ∃ r, r < 101 ∧ f k = nI r) → (zlsF c f n 0).toNat % 2 ^ 63 ≤ 1023 * 2 ^ 52
  | 0, _ => show (4607182418800017408 : UInt64).toNat % 2 ^ 63 ≤ 1023 * 2 ^ 52 by decide
  | n + 1, h => by
    have ih := gfLs c f n (fun k hk => h k (by omega))
    obtain ⟨r, hr, er⟩ := h n (by omega)
    unfold zlsF
    by_cases e : c n = true
    · rw [if_pos e, er]
      exact gfStep ih hr
    · rw [if_neg e]
      exact ih
theorem gfAdd {a : UInt64} (ha : a.toNat % 2 ^ 63 ≤ 1023 * 2 ^ 52) : FP.dcmp (FP.dadd 0 a) 4607182423303617035 ≠ some .gt := fun h => by
  have fa : FP.Core.DFin a := (FP.Core.fin_bits a).mpr (by omega)
  have fz : FP.Core.DZero 0 := (FP.Core.zero_bits2 0).mpr (by decide)
  have e := (FP.Core.dadd_zero_eq fa fz).2
  have h1 := FP.Core.dcmp_eq.mp e
  have h2 := FP.Core.dcmp_gt.mp h
  rw [h1.2.2] at h2
  have h3 : FP.dcmp a 4607182423303617035 = some .gt := FP.Core.dcmp_gt.mpr ⟨h1.2.1, h2.2.1, h2.2.2⟩
  rw [FP.Core.dcmp_gt_key h1.2.1 h2.2.1] at h3
  have k1 : FP.Core.dkey 4607182423303617035 = 4607182423303617035 := by decide +kernel
  rw [k1] at h3
  unfold FP.Core.dkey at h3
  have := a.toNat_lt
  split at h3 <;> omega
/-- the law's own number is 1.000001 -/
theorem gfLo {V : Nat → Nat → Int32} {nk si : Nat} (h1 : V (200 + si) 0 = nI 1) (hr : ∀ k, k < nk → ∃ r, r < 101 ∧ V (100 + k) 3 = nI r) : FP.dcmp (qLo V nk si) 4607182423303617035 ≠ some .gt := by
  unfold qLo
  rw [h1, nI_clamp (by decide)]
  exact gfAdd (gfLs _ _ nk hr)



theorem zand_le (x : Int32) {g : Nat} (hg : g < 2 ^ 31) : ∃ q, q ≤ g ∧ x &&& nI g = nI q := by
  refine ⟨x.toBitVec.toNat &&& g, Nat.and_le_right, ?_⟩
  have hle : x.toBitVec.toNat &&& g ≤ g := Nat.and_le_right
  rw [← Int32.toBitVec_inj, Int32.toBitVec_and]
  apply BitVec.eq_of_toNat_eq
  rw [BitVec.toNat_and, pk_tn (by omega), pk_tn (by omega)]
theorem zand_le2 (x : Int32) {g : Nat} (hg : g < 2 ^ 31) : ∃ q, q ≤ g ∧ nI g &&& x = nI q := by
  rw [Int32.and_comm]; exact zand_le x hg


theorem zall_eq {nk : Nat} (hk : nk ≤ 8) : (1 : Int32) <<< (nI nk &&& 31) - 1 = nI (2 ^ nk - 1) := by
  have key : ∀ nk, nk < 9 → (1 : Int32) <<< (nI nk &&& 31) - 1 = nI (2 ^ nk - 1) := by decide +kernel
  exact key nk (by omega)


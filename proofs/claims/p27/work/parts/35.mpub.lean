
/-- a public method's end: what was thrown isn't told -/
def mTp (d : zD) (B : Nat → Nat) (nk ns ne ec : Nat) (V : Nat → Nat → Int32) (G : zG) (R : Option Value → Prop) : Option Value → zG → Prop := fun r G1 => R r ∧ ∃ V', zM d B V' nk ns ne ec G1 ∧ zKn V V' ∧ mFr B nk ns ne G G1
def zrW : Option Value → Prop := fun r => ∃ v : UInt64, r = some (.double v)
theorem zin_l {x : Int32} {n : Nat} (h : zin x 0 (nI n) = true) (hn : n < 2 ^ 31) : ∃ k, k < n + 1 ∧ x = nI k := by
  simp only [zin, Bool.and_eq_true, decide_eq_true_eq] at h
  obtain ⟨k, hk, rfl⟩ := nI_of (x := x) (fun q => by have := h.1; simp only [Int32.lt_iff_toInt_lt, Int32.le_iff_toInt_le] at *; omega)
  exact ⟨k, Nat.lt_succ_of_le ((nI_leI hk hn).mp h.2), rfl⟩
theorem zin_n {x : Int32} {n : Nat} (h : zin x 0 (nI n - 1) = true) (hn : n < 2 ^ 31) : ∃ k, k < n ∧ x = nI k := by
  rcases Nat.eq_zero_or_pos n with h0 | h0
  · subst h0
    simp only [zin, Bool.and_eq_true, decide_eq_true_eq, Int32.le_iff_toInt_le] at h
    have h1 : (nI 0 - 1).toInt = -1 := by decide
    have h2 : (0 : Int32).toInt = 0 := by decide
    omega
  · rw [nI_s1 h0 hn] at h
    obtain ⟨k, hk, e⟩ := zin_l h (by omega)
    exact ⟨k, by omega, e⟩
theorem zM.k2 {d : zD} {B : Nat → Nat} {V : Nat → Nat → Int32} {nk ns ne ec h a : Nat} {G G1 : zG} (hM : zM d B V nk ns ne ec G) (hk : zK2 h a G G1) (h1 : ∀ r, mlive nk ns ne r → B r ≠ h) (h2 : ∀ r, mlive nk ns ne r → B r ≠ a) : zM d B V nk ns ne ec G1 := ⟨⟨hM.1.1, fun r hr => hk _ _ (hM.1.2 r hr) (h1 r hr) (h2 r hr)⟩, hM.2⟩
section ZLS
variable {g0 : State} {d : zD} {y : MethodName} {cc : ByteArray} {nL : Nat} {ret : Option FieldType} {tb : List ExceptionTableEntry} {p : Program} {l : Launch} {e : Env} {R : Room} {s : State} {m : MethodId} {args : Array Value} {below : List Frame} {meth : Method} {c : Code} {Q : State → Prop} {cells slots : Nat} {G : zG} {L : List (Nat × Value)} {st : List Value} {pc : Nat}
theorem z_ldcS {idx : Nat} {tx : String} (hq : Cond.stringRef y.cls idx tx ∈ lw_tbl) (hd : decode cc pc = .ok (.ldc idx, 2)) (k : ∀ q, Z g0 d y cc nL ret tb p l e R s m args below meth c Q cells slots G L (.ref q :: st) (pc + 2)) : Z g0 d y cc nL ret tb p l e R s m args below meth c Q cells slots G L st pc := by
  intro hc H locs ls hP hS hl
  obtain ⟨⟨a0, h0, -, -, -, hU, hN, hT, -⟩, -⟩ := id hc
  obtain ⟨sa, hsa⟩ := hT _ _ _ hq
  exact va_ldcS hc.x hc.b hc.own (vk_R.warm hc.warm hsa) hd (k sa hc H locs ls hP hS hl)
end ZLS



/-- shares lost: keeper j's of secret s, where D tells -/
def mfl (V : Nat → Nat → Int32) (x : Int32) (s j : Nat) : Bool := decide (V (100 + j) 0 = x) && decide (V (300 + s) j ≠ -1)
def mFd (V V' : Nat → Nat → Int32) (ns : Nat) (x : Int32) (D : Nat → Nat → Bool) : Prop := (∀ r, ¬ (300 ≤ r ∧ r < 300 + ns) → ¬ (400 ≤ r ∧ r < 400 + ns) → V' r = V r) ∧ ∀ s, s < ns → ∀ j, ((D s j = true ∧ mfl V x s j = true) → V' (300 + s) j = -1 ∧ V' (400 + s) j = -1) ∧ (¬ (D s j = true ∧ mfl V x s j = true) → V' (300 + s) j = V (300 + s) j ∧ V' (400 + s) j = V (400 + s) j)
def mDn (nk i jj s j : Nat) : Bool := decide (j < nk) && (decide (s < i) || (decide (s = i) && decide (j < jj)))
def mgo (V : Nat → Nat → Int32) (x : Int32) (nk : Nat) : Nat → Nat
  | 0 => 0
  | s + 1 => mgo V x nk s + zcnt (mfl V x s) nk
section MFD
variable {V V2 : Nat → Nat → Int32} {ns nk i j : Nat} {x : Int32}
theorem mDn_z (s j : Nat) : mDn nk 0 0 s j = false := by
  unfold mDn
  rw [decide_eq_false (Nat.not_lt_zero s), decide_eq_false (Nat.not_lt_zero j), Bool.and_false, Bool.or_false, Bool.and_false]
theorem mDn_n (i s j : Nat) : mDn nk i nk s j = mDn nk (i + 1) 0 s j := by
  unfold mDn
  by_cases h : j < nk
  · rw [decide_eq_true h, Bool.and_true, decide_eq_false (Nat.not_lt_zero j), Bool.and_false, Bool.or_false, show decide (s < i + 1) = (decide (s < i) || decide (s = i)) from by rw [← Bool.decide_or]; exact decide_eq_decide.mpr (by omega)]
  · rw [decide_eq_false h, Bool.false_and, Bool.false_and]
theorem mDn_t (h : j < nk) {s q : Nat} : mDn nk i (j + 1) s q = true ↔ mDn nk i j s q = true ∨ (s = i ∧ q = j) := by
  unfold mDn
  simp only [Bool.and_eq_true, Bool.or_eq_true, decide_eq_true_eq]
  omega
theorem mDn_o (s : Nat) : mDn nk i j s j = true → s < i := by
  unfold mDn
  simp only [Bool.and_eq_true, Bool.or_eq_true, decide_eq_true_eq]
  omega
theorem mFd.z : mFd V V ns x (mDn nk 0 0) := ⟨fun _ _ _ => rfl, fun s hs j => ⟨fun h => (by rw [mDn_z] at h; cases h.1), fun _ => ⟨rfl, rfl⟩⟩⟩
theorem mFd.n (h : mFd V V2 ns x (mDn nk i nk)) : mFd V V2 ns x (mDn nk (i + 1) 0) := ⟨h.1, fun s hs j => by rw [← mDn_n]; exact h.2 s hs j⟩
theorem mFd.skip (h : mFd V V2 ns x (mDn nk i j)) (hj : j < nk) (hf : mfl V x i j = false) : mFd V V2 ns x (mDn nk i (j + 1)) := by
  refine ⟨h.1, fun s hs q => ⟨fun h2 => (h.2 s hs q).1 ⟨?_, h2.2⟩, fun h2 => (h.2 s hs q).2 (fun z => h2 ⟨(mDn_t hj).mpr (Or.inl z.1), z.2⟩)⟩⟩
  rcases (mDn_t hj).mp h2.1 with z | ⟨rfl, rfl⟩
  · exact z
  · rw [hf] at h2; cases h2.2
theorem mFd.o (h : mFd V V2 ns x (mDn nk i j)) (hi : i < ns) : V2 (300 + i) j = V (300 + i) j := ((h.2 i hi j).2 (fun q => absurd (mDn_o i q.1) (Nat.lt_irrefl i))).1
theorem mFd.k (h : mFd V V2 ns x (mDn nk i j)) (h6 : ns ≤ 6) {k : Nat} (hk : k < 8) : V2 (100 + k) = V (100 + k) := h.1 _ (by omega) (by omega)
theorem mFd.lose (h : mFd V V2 ns x (mDn nk i j)) (hj : j < nk) (hi : i < ns) (h6 : ns ≤ 6) (hf : mfl V x i j = true) {V5 : Nat → Nat → Int32} (h5 : V5 = rset V2 (300 + i) (upd (V2 (300 + i)) j (-1))) : mFd V (rset V5 (400 + i) (upd (V5 (400 + i)) j (-1))) ns x (mDn nk i (j + 1)) := by
  subst h5
  refine ⟨fun r h1 h2 => by rw [rset_n (by omega), rset_n (by omega)]; exact h.1 r h1 h2, fun s hs q => ?_⟩
  by_cases e : s = i
  · subst e
    rw [rset_n (show 300 + s ≠ 400 + s by omega), rset_s, rset_s, rset_n (show 400 + s ≠ 300 + s by omega)]
    by_cases e2 : q = j
    · subst e2
      rw [pk_us, pk_us]
      exact ⟨fun _ => ⟨rfl, rfl⟩, fun z => absurd ⟨(mDn_t hj).mpr (Or.inr ⟨rfl, rfl⟩), hf⟩ z⟩
    · rw [pk_un e2, pk_un e2]
      refine ⟨fun z => (h.2 s hs q).1 ⟨?_, z.2⟩, fun z => (h.2 s hs q).2 (fun y => z ⟨(mDn_t hj).mpr (Or.inl y.1), y.2⟩)⟩
      rcases (mDn_t hj).mp z.1 with y | ⟨-, y⟩
      · exact y
      · exact absurd y e2
  · rw [rset_n (show 300 + s ≠ 400 + i by omega), rset_n (show 300 + s ≠ 300 + i by omega), rset_n (show 400 + s ≠ 400 + i by omega), rset_n (show 400 + s ≠ 300 + i by omega)]
    refine ⟨fun z => (h.2 s hs q).1 ⟨?_, z.2⟩, fun z => (h.2 s hs q).2 (fun y => z ⟨(mDn_t hj).mpr (Or.inl y.1), y.2⟩)⟩
    rcases (mDn_t hj).mp z.1 with y | ⟨y, -⟩
    · exact y
    · exact absurd y e
end MFD


/-- luck alone is another -/
def mLk (V V' : Nat → Nat → Int32) (l : Int32) : Prop := (V' 0 0 = V 0 0 ∧ V' 0 1 = l ∧ V' 0 2 = V 0 2 ∧ V' 0 3 = V 0 3 ∧ V' 0 4 = V 0 4 ∧ V' 0 5 = V 0 5) ∧ ∀ r, r ≠ 0 → V' r = V r
theorem mLk.z {V : Nat → Nat → Int32} {od : Int32} : mLk V V (zlkn od (V 0 1) 1) := ⟨⟨rfl, (if_neg (fun q => q.1 rfl)).symm, rfl, rfl, rfl, rfl⟩, fun _ _ => rfl⟩
theorem mLk.s {V V2 : Nat → Nat → Int32} {t i : Nat} {x : Int32} (h : mLk V V2 (zlkn (nI t) x i)) (h1 : 1 ≤ i) (hi : i < t) (ht : t ≤ 4) : mLk V (rset V2 0 (zm6 (V2 0 0) (zlk (V2 0 1)) (V2 0 2) (V2 0 3) (V2 0 4) (V2 0 5))) (zlkn (nI t) x (i + 1)) := by
  obtain ⟨⟨a, b, c, e, f, g⟩, o⟩ := h
  refine ⟨⟨(congrFun rset_s 0).trans a, (congrFun rset_s 1).trans ?_, (congrFun rset_s 2).trans c, (congrFun rset_s 3).trans e, (congrFun rset_s 4).trans f, (congrFun rset_s 5).trans g⟩, fun r hr => by rw [rset_n hr]; exact o r hr⟩
  show zlk (V2 0 1) = zlkn (nI t) x (i + 1)
  rw [b]
  exact (if_pos ⟨by omega, nI_lt hi (by omega)⟩).symm
theorem zcvn_i {fi x : Int32} {t i : Nat} (h1 : 1 ≤ i) (hi : i < t) (ht : t ≤ 4) : zcvn fi (nI t) x i = zdr (zlk (zlkn (nI t) x i)) := (if_neg (by omega)).trans (if_pos (nI_lt hi (by omega)))


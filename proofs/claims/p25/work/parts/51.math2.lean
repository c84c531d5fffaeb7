
/-- point p + 1 has what keeper p gives -/
def gvs (h : Nat → Int32) : Nat → Int32
  | 0 => 0
  | p + 1 => h p
def zgp (f : Nat → Bool) : Nat → Bool
  | 0 => false
  | p + 1 => f p
theorem zgp_N (f : Nat → Bool) : ∀ n, zsetN (zgp f) (n + 1) = 2 * zsetN f n
  | 0 => rfl
  | n + 1 => by
    have ih := zgp_N f n
    show zsetN (zgp f) (n + 1) + (if f n then 2 ^ (n + 1) else 0) = 2 * (zsetN f n + (if f n then 2 ^ n else 0))
    rw [ih, Nat.pow_succ]
    by_cases hf : f n = true
    · rw [if_pos hf, if_pos hf]; omega
    · rw [if_neg hf, if_neg hf, Nat.add_zero, Nat.add_zero]
theorem tb_2 : ∀ q, q < 256 → (2 * q).testBit 0 = false ∧ ∀ k, k < 8 → (2 * q).testBit (k + 1) = q.testBit k := by decide +kernel
theorem zpop_2 : ∀ q, q < 256 → zpop 9 (2 * q) = zpop 9 q := by decide +kernel
theorem zsN_self8 : ∀ q, q < 256 → zsetN (fun k => q.testBit k) 8 = q := by decide +kernel
theorem tb_odd : ∀ q, q < 256 → (2 * q + 1).testBit 0 = true := by decide +kernel
theorem zsN_le {f g : Nat → Bool} : ∀ n, (∀ k, k < n → f k = true → g k = true) → zsetN f n ≤ zsetN g n
  | 0, _ => Nat.le_refl _
  | n + 1, h => by
    have ih := zsN_le n (fun k hk => h k (by omega))
    show zsetN f n + (if f n then 2 ^ n else 0) ≤ zsetN g n + (if g n then 2 ^ n else 0)
    by_cases hf : f n = true
    · rw [if_pos hf, if_pos (h n (by omega) hf)]; omega
    · have hp : 0 < 2 ^ n := Nat.pow_pos (by decide)
      rw [if_neg hf]; split <;> omega
/-- the first t of a set -/
def zfs (f : Nat → Bool) (t : Nat) (k : Nat) : Bool := f k && decide (zcnt f k < t)
theorem zfs_cnt (f : Nat → Bool) (t : Nat) : ∀ n, zcnt (zfs f t) n = min t (zcnt f n)
  | 0 => (Nat.min_zero t).symm
  | n + 1 => by
    have ih := zfs_cnt f t n
    show zcnt (zfs f t) n + (if zfs f t n then 1 else 0) = min t (zcnt f n + (if f n then 1 else 0))
    rw [ih]
    unfold zfs
    by_cases hf : f n = true
    · by_cases hc : zcnt f n < t
      · rw [hf, decide_eq_true hc, if_pos (by rfl), if_pos rfl]; omega
      · rw [hf, decide_eq_false hc, if_neg (by decide), if_pos rfl]; omega
    · rw [Bool.eq_false_iff.mpr hf, if_neg (by rw [Bool.false_and]; decide), if_neg (by decide)]
      omega
theorem nI_andn {x y : Nat} (hx : x < 512) (hy : y < 512) : nI x &&& (nI y ^^^ (-1)) = nI (zsetN (fun k => x.testBit k && !y.testBit k) 9) := by
  have hl := (zset_N (fun k => x.testBit k && !y.testBit k) 9 (by decide)).2
  rw [← Int32.toBitVec_inj]
  apply BitVec.eq_of_getLsbD_eq
  intro k hk
  rw [Int32.toBitVec_and, Int32.toBitVec_xor, BitVec.getLsbD_and, BitVec.getLsbD_xor, nI_bit (by omega), nI_bit (by omega), nI_bit (by omega), show (-1 : Int32).toBitVec = BitVec.allOnes 32 from by decide, BitVec.getLsbD_allOnes, decide_eq_true hk, Bool.xor_true]
  by_cases h9 : k < 9
  · rw [zsN_at _ 9 (by decide) k h9, decide_eq_true h9, Bool.true_and]
  · have p2 : 2 ^ 9 ≤ 2 ^ k := Nat.pow_le_pow_right (by decide) (by omega)
    rw [Nat.testBit_lt_two_pow (i := k) (x := x) (by omega), Nat.testBit_lt_two_pow (i := k) (x := zsetN (fun k => x.testBit k && !y.testBit k) 9) (by omega)]
    rfl
theorem tb_sub2 {s q : Nat} (hs : s < 256) (hq : q < 256) : nI (2 * s) &&& (nI (2 * q) ^^^ (-1)) = 0 ↔ nI s &&& (nI q ^^^ (-1)) = 0 := by
  rw [tb_sub (by omega) (by omega), tb_sub (by omega) (by omega)]
  constructor
  · intro h k hk h1
    by_cases h8 : k < 8
    · have := h (k + 1) (by omega)
      rw [(tb_2 s hs).2 k h8, (tb_2 q hq).2 k h8] at this
      exact this h1
    · rw [Nat.testBit_lt_two_pow (i := k) (x := s) (Nat.lt_of_lt_of_le hs (show 2 ^ 8 ≤ 2 ^ k from Nat.pow_le_pow_right (by decide) (by omega)))] at h1
      cases h1
  · intro h k hk h1
    match k, hk, h1 with
    | 0, _, h1 => rw [(tb_2 s hs).1] at h1; cases h1
    | k + 1, hk, h1 =>
      rw [(tb_2 s hs).2 k (by omega)] at h1
      rw [(tb_2 q hq).2 k (by omega)]
      exact h k (by omega) h1
/-- what is given is small -/
def zSm (h : Nat → Int32) (g : Nat) : Prop := ∀ k, k < 8 → g.testBit k = true → ∃ j, j < 97 ∧ h k = nI j
theorem zSm.g {h : Nat → Int32} {g q : Nat} (hs : zSm h g) (hq : q < 256) (hsub : ∀ k, k < 8 → q.testBit k = true → g.testBit k = true) : ∀ k, k < 9 → (2 * q).testBit k = true → gvs h k = nI (gvs h k).toNatClampNeg ∧ (gvs h k).toNatClampNeg < 97
  | 0, _, h1 => by rw [(tb_2 q hq).1] at h1; cases h1
  | k + 1, hk, h1 => by
    rw [(tb_2 q hq).2 k (by omega)] at h1
    obtain ⟨j, hj, e⟩ := hs k (by omega) (hsub k (by omega) h1)
    show h k = nI (h k).toNatClampNeg ∧ (h k).toNatClampNeg < 97
    rw [e, nI_clamp (by omega)]
    exact ⟨rfl, hj⟩
/-- those of a group that agree with the curve of a set -/
def rag (inv h : Nat → Int32) (g q : Nat) : Nat := zsetN (fun k => g.testBit k && decide (zth inv (gvs h) (nI (2 * q)) (nI (k + 1)) = h k)) 8
theorem rag_lt {inv h : Nat → Int32} {g q : Nat} : rag inv h g q < 256 := (zset_N _ 8 (by decide)).2
theorem rag_at {inv h : Nat → Int32} {g q k : Nat} (hk : k < 8) : (rag inv h g q).testBit k = (g.testBit k && decide (zth inv (gvs h) (nI (2 * q)) (nI (k + 1)) = h k)) := by
  unfold rag
  rw [zsN_at _ 8 (by decide) k (by omega), decide_eq_true hk, Bool.true_and]
theorem gv_th {inv h gv : Nat → Int32} {g q : Nat} (hq : q < 256) (hsub : ∀ k, k < 8 → q.testBit k = true → g.testBit k = true) (hgv : ∀ k, k < 8 → g.testBit k = true → gv (k + 1) = h k) (x : Int32) : zth inv gv (nI (2 * q)) x = zth inv (gvs h) (nI (2 * q)) x := by
  refine zthO_congr (fun k hk h1 => ?_) 9 (by decide)
  rw [tb_zbt _ (by omega) k hk] at h1
  match k, hk, h1 with
  | 0, _, h1 => rw [(tb_2 q hq).1] at h1; cases h1
  | k + 1, hk, h1 =>
    rw [(tb_2 q hq).2 k (by omega)] at h1
    exact hgv k (by omega) (hsub k (by omega) h1)
theorem rag_zag {inv h gv : Nat → Int32} {g q : Nat} (hg : g < 256) (hq : q < 256) (hsub : ∀ k, k < 8 → q.testBit k = true → g.testBit k = true) (hgv : ∀ k, k < 8 → g.testBit k = true → gv (k + 1) = h k) : zag inv gv (nI (2 * g)) (nI (2 * q)) = nI (2 * rag inv h g q) := by
  unfold zag rag
  rw [(zset_N _ 9 (by decide)).1, ← zgp_N]
  refine congrArg nI (zsN_congr 9 fun k hk => ?_)
  match k, hk with
  | 0, _ =>
    show zagf inv gv (nI (2 * g)) (nI (2 * q)) 0 = false
    unfold zagf
    rw [tb_zbt _ (by omega) 0 (by decide), (tb_2 g hg).1, Bool.false_and]
  | k + 1, hk =>
    show zagf inv gv (nI (2 * g)) (nI (2 * q)) (k + 1) = (g.testBit k && decide (zth inv (gvs h) (nI (2 * q)) (nI (k + 1)) = h k))
    unfold zagf
    rw [tb_zbt _ (by omega) (k + 1) hk, (tb_2 g hg).2 k (by omega)]
    by_cases e : g.testBit k = true
    · rw [hgv k (by omega) e, gv_th hq hsub hgv]
    · rw [Bool.eq_false_iff.mpr e, Bool.false_and, Bool.false_and]
/-- what a number 1 .. 96 times its inverse leaves -/
def zVv (iv : Nat → Nat) : Prop := ∀ d, 1 ≤ d → d < 97 → d * iv d % 97 = 1
section RMB
variable {inv h gv : Nat → Int32} {iv : Nat → Nat} {t g : Nat}
theorem rag_own (hi : zIv inv iv) (hv : zVv iv) (hs : zSm h g) {q : Nat} (hq : q < 256) (hsub : ∀ k, k < 8 → q.testBit k = true → g.testBit k = true) {k : Nat} (hk : k < 8) (h1 : q.testBit k = true) : (rag inv h g q).testBit k = true := by
  rw [rag_at hk, hsub k hk h1, Bool.true_and, decide_eq_true_eq]
  exact zth_own hi hv (fun k hk => tb_zbt (2 * q) (by omega) k hk) (hs.g hq hsub) (p := k + 1) (by omega) (by rw [(tb_2 q hq).2 k hk]; exact h1)
theorem pop8 {q : Nat} (hq : q < 256) : zpop 9 q = zcnt (fun k => q.testBit k) 8 := by
  have := zpop_cnt (fun k => q.testBit k) 8 (by decide)
  rw [zsN_self8 q hq] at this
  exact this
theorem pop_sub {q r : Nat} (hq : q < 256) (hr : r < 256) (h : ∀ k, k < 8 → q.testBit k = true → r.testBit k = true) : zpop 9 q ≤ zpop 9 r := by
  rw [pop8 hq, pop8 hr]
  exact zcnt_mono 8 h
theorem rag_sub {q k : Nat} (hk : k < 8) (h1 : (rag inv h g q).testBit k = true) : g.testBit k = true := by
  rw [rag_at hk, Bool.and_eq_true] at h1
  exact h1.1
def rcd (t g s : Nat) : Bool := decide (nI s &&& (nI g ^^^ (-1)) = 0) && decide (zpop 9 s = t)
theorem rcd_sub {s : Nat} (hg : g < 256) (hs : s < 256) (h : rcd t g s = true) : (∀ k, k < 8 → s.testBit k = true → g.testBit k = true) ∧ zpop 9 s = t := by
  unfold rcd at h
  rw [Bool.and_eq_true, decide_eq_true_eq, decide_eq_true_eq, tb_sub (by omega) (by omega)] at h
  exact ⟨fun k hk => h.1 k (by omega), h.2⟩
/-- the reference's search: the best set and, by one more, how many agree -/
def rmb (inv h : Nat → Int32) (t g : Nat) : Nat → Nat × Nat
  | 0 => (0, 0)
  | n + 1 => if rcd t g (n + 1) = true ∧ (rmb inv h t g n).2 ≤ zpop 9 (rag inv h g (n + 1)) then (n + 1, zpop 9 (rag inv h g (n + 1)) + 1) else rmb inv h t g n
theorem rmb_t {n : Nat} (h1 : rcd t g (n + 1) = true) (h2 : (rmb inv h t g n).2 ≤ zpop 9 (rag inv h g (n + 1))) : (n + 1, zpop 9 (rag inv h g (n + 1)) + 1) = rmb inv h t g (n + 1) := (if_pos ⟨h1, h2⟩).symm
theorem rmb_f {n : Nat} (h1 : rcd t g (n + 1) = false ∨ ¬ (rmb inv h t g n).2 ≤ zpop 9 (rag inv h g (n + 1))) : rmb inv h t g n = rmb inv h t g (n + 1) := (if_neg (fun q => h1.elim (fun e => by rw [q.1] at e; cases e) (fun e => e q.2))).symm
def rg0 (inv h : Nat → Int32) (g b : Nat) : Nat := if b = 0 then 0 else rag inv h g b
theorem rg0_lt {b : Nat} : rg0 inv h g b < 256 := by
  unfold rg0
  split
  · decide
  · exact rag_lt
theorem rmb_in : ∀ m, (rmb inv h t g m).1 ≤ m ∧ (((rmb inv h t g m).1 = 0 ∧ (rmb inv h t g m).2 = 0) ∨ ((rmb inv h t g m).1 ≠ 0 ∧ rcd t g (rmb inv h t g m).1 = true ∧ (rmb inv h t g m).2 = zpop 9 (rag inv h g (rmb inv h t g m).1) + 1))
  | 0 => ⟨Nat.le_refl _, Or.inl ⟨rfl, rfl⟩⟩
  | n + 1 => by
    obtain ⟨h1, h2⟩ := rmb_in n
    by_cases e : rcd t g (n + 1) = true ∧ (rmb inv h t g n).2 ≤ zpop 9 (rag inv h g (n + 1))
    · rw [← rmb_t e.1 e.2]
      exact ⟨Nat.le_refl _, Or.inr ⟨Nat.succ_ne_zero n, e.1, rfl⟩⟩
    · have : rmb inv h t g n = rmb inv h t g (n + 1) := (if_neg e).symm
      rw [← this]
      exact ⟨by omega, h2⟩
theorem rmb_le (m : Nat) : (rmb inv h t g m).2 ≤ 10 := by
  rcases (rmb_in (inv := inv) (h := h) (t := t) (g := g) m).2 with ⟨-, e⟩ | ⟨-, -, e⟩
  · omega
  · have := zpop_le (rag inv h g (rmb inv h t g m).1) (by have := rag_lt (inv := inv) (h := h) (g := g) (q := (rmb inv h t g m).1); omega)
    omega
/-- the class's search finds what the reference's does -/
theorem zdec_rmb (hi : zIv inv iv) (hv : zVv iv) (hs : zSm h g) (hg : g < 256) (ht : 1 ≤ t) (ht9 : t < 9) (hgv : ∀ k, k < 8 → g.testBit k = true → gv (k + 1) = h k) : ∀ m, m ≤ g → zdec inv gv (nI t) (nI (2 * g)) 0 0 (2 * m) = (nI (2 * (rmb inv h t g m).1), nI (2 * rg0 inv h g (rmb inv h t g m).1))
  | 0, _ => rfl
  | m + 1, hm => by
    have ih := zdec_rmb hi hv hs hg ht ht9 hgv m (by omega)
    obtain ⟨i1, i2⟩ := rmb_in (inv := inv) (h := h) (t := t) (g := g) m
    have hod : zdec inv gv (nI t) (nI (2 * g)) 0 0 (2 * m + 1) = zdec inv gv (nI t) (nI (2 * g)) 0 0 (2 * m) := by
      by_cases e : (zdec inv gv (nI t) (nI (2 * g)) 0 0 (2 * m)).2 = nI (2 * g)
      · exact zdec_d e
      · refine zdec_s e (Or.inl fun q => ?_)
        have := (tb_sub (by omega) (by omega)).mp q 0 (by decide) (tb_odd m (by omega))
        rw [(tb_2 g hg).1] at this
        cases this
    have ih2 := hod.trans ih
    have hrl : rag inv h g (m + 1) < 256 := rag_lt
    have h0l : rg0 inv h g (rmb inv h t g m).1 < 256 := rg0_lt
    have hst : (zdec inv gv (nI t) (nI (2 * g)) 0 0 (2 * m + 1)).2 = nI (2 * rg0 inv h g (rmb inv h t g m).1) := by rw [ih2]
    show zdec inv gv (nI t) (nI (2 * g)) 0 0 (2 * m + 1 + 1) = _
    by_cases e : (zdec inv gv (nI t) (nI (2 * g)) 0 0 (2 * m + 1)).2 = nI (2 * g)
    · rw [zdec_d e, ih2]
      rw [hst] at e
      have e2 : 2 * rg0 inv h g (rmb inv h t g m).1 = 2 * g := (nI_eq (by omega) (by omega)).mp e
      have hb : (rmb inv h t g m).1 ≠ 0 := fun q => by
        unfold rg0 at e2
        rw [if_pos q] at e2
        omega
      have e3 : rag inv h g (rmb inv h t g m).1 = g := by
        unfold rg0 at e2
        rw [if_neg hb] at e2
        omega
      rcases i2 with ⟨q, -⟩ | ⟨-, -, q⟩
      · exact absurd q hb
      · have := pop_sub (q := rag inv h g (m + 1)) hrl hg (fun k hk => rag_sub hk)
        rw [← rmb_f (n := m) (Or.inr (by rw [q, e3]; omega))]
    · by_cases hc : rcd t g (m + 1) = true
      · obtain ⟨c1, c2⟩ := rcd_sub hg (by omega) hc
        have hc0 := hc
        unfold rcd at hc0
        rw [Bool.and_eq_true, decide_eq_true_eq, decide_eq_true_eq] at hc0
        have s1 : nI (2 * m + 1 + 1) &&& (nI (2 * g) ^^^ (-1)) = 0 := by
          rw [show 2 * m + 1 + 1 = 2 * (m + 1) by omega]
          exact (tb_sub2 (by omega) hg).mpr hc0.1
        have s2 : zbc (nI (2 * m + 1 + 1)) = nI t := by
          rw [show 2 * m + 1 + 1 = 2 * (m + 1) by omega, zbc_512 _ (by omega), zpop_2 _ (by omega), hc0.2]
        have s3 : zag inv gv (nI (2 * g)) (nI (2 * m + 1 + 1)) = nI (2 * rag inv h g (m + 1)) := by
          rw [show 2 * m + 1 + 1 = 2 * (m + 1) by omega]
          exact rag_zag hg (by omega) c1 hgv
        have s4 : zbc (zag inv gv (nI (2 * g)) (nI (2 * m + 1 + 1))) = nI (zpop 9 (rag inv h g (m + 1))) := by
          rw [s3, zbc_512 _ (by omega), zpop_2 _ hrl]
        have s5 : zbc (zdec inv gv (nI t) (nI (2 * g)) 0 0 (2 * m + 1)).2 = nI (zpop 9 (rg0 inv h g (rmb inv h t g m).1)) := by
          rw [hst, zbc_512 _ (by omega), zpop_2 _ h0l]
        have p1 := zpop_le (rag inv h g (m + 1)) (by omega)
        have p2 := zpop_le (rg0 inv h g (rmb inv h t g m).1) (by omega)
        have own : t ≤ zpop 9 (rag inv h g (m + 1)) := by
          have := pop_sub (q := m + 1) (r := rag inv h g (m + 1)) (by omega) hrl (fun k hk h1 => rag_own hi hv hs (by omega) c1 hk h1)
          omega
        by_cases hle : zpop 9 (rag inv h g (m + 1)) ≤ zpop 9 (rg0 inv h g (rmb inv h t g m).1)
        · rw [zdec_l e s1 s2 (by rw [s4, s5]; exact nI_le hle (by omega)), ih2]
          have hb : (rmb inv h t g m).1 ≠ 0 := fun q => by
            unfold rg0 at hle
            rw [if_pos q] at hle
            have : zpop 9 0 = 0 := by decide
            omega
          have e3 : rg0 inv h g (rmb inv h t g m).1 = rag inv h g (rmb inv h t g m).1 := if_neg hb
          rw [e3] at hle
          rcases i2 with ⟨q, -⟩ | ⟨-, -, q⟩
          · exact absurd q hb
          · rw [← rmb_f (n := m) (Or.inr (by rw [q]; omega))]
        · rw [zdec_t e s1 s2 (by rw [s4, s5]; exact fun q => hle ((nI_leI (by omega) (by omega)).mp q)), s3]
          have h2 : (rmb inv h t g m).2 ≤ zpop 9 (rag inv h g (m + 1)) := by
            rcases i2 with ⟨-, q⟩ | ⟨q1, -, q⟩
            · omega
            · have e3 : rg0 inv h g (rmb inv h t g m).1 = rag inv h g (rmb inv h t g m).1 := if_neg q1
              rw [e3] at hle
              omega
          rw [← rmb_t hc h2]
          show (nI (2 * m + 1 + 1), nI (2 * rag inv h g (m + 1))) = (nI (2 * (m + 1)), nI (2 * rg0 inv h g (m + 1)))
          rw [show rg0 inv h g (m + 1) = rag inv h g (m + 1) from if_neg (Nat.succ_ne_zero m), show 2 * m + 1 + 1 = 2 * (m + 1) by omega]
      · have hc0 : rcd t g (m + 1) = false := Bool.eq_false_iff.mpr hc
        rw [zdec_s e ?_, ih2, ← rmb_f (n := m) (Or.inl hc0)]
        by_cases z : nI (m + 1) &&& (nI g ^^^ (-1)) = 0
        · refine Or.inr fun q => hc ?_
          rw [show 2 * m + 1 + 1 = 2 * (m + 1) by omega, zbc_512 _ (by omega), zpop_2 _ (by omega)] at q
          have p3 := zpop_le (m + 1) (by omega)
          unfold rcd
          rw [decide_eq_true z, decide_eq_true ((nI_eq (by omega) (by omega)).mp q)]
          rfl
        · refine Or.inl fun q => z ?_
          rw [show 2 * m + 1 + 1 = 2 * (m + 1) by omega] at q
          exact (tb_sub2 (by omega) hg).mp q
/-- where there are enough, a set is found -/
theorem rmb_some (hg : g < 256) {s : Nat} (h1 : rcd t g s = true) (h0 : s ≠ 0) : ∀ m, s ≤ m → (rmb inv h t g m).1 ≠ 0
  | 0, hm => absurd (Nat.le_zero.mp hm) h0
  | m + 1, hm => by
    by_cases e : rcd t g (m + 1) = true ∧ (rmb inv h t g m).2 ≤ zpop 9 (rag inv h g (m + 1))
    · rw [← rmb_t e.1 e.2]; exact Nat.succ_ne_zero m
    · have e2 : rmb inv h t g m = rmb inv h t g (m + 1) := (if_neg e).symm
      rw [← e2]
      by_cases hs : s = m + 1
      · subst hs
        rcases (rmb_in (inv := inv) (h := h) (t := t) (g := g) m).2 with ⟨-, q⟩ | ⟨q, -⟩
        · exact absurd ⟨h1, by rw [q]; exact Nat.zero_le _⟩ e
        · exact q
      · exact rmb_some hg h1 h0 m (by omega)
theorem rmb_ne (hg : g < 256) (ht : 1 ≤ t) (hn : t ≤ zpop 9 g) : (rmb inv h t g g).1 ≠ 0 := by
  have hl := (zset_N (zfs (fun k => g.testBit k) t) 8 (by decide)).2
  have hc : zpop 9 (zsetN (zfs (fun k => g.testBit k) t) 8) = t := by
    rw [zpop_cnt _ 8 (by decide), zfs_cnt, ← pop8 hg]
    omega
  refine rmb_some hg (s := zsetN (zfs (fun k => g.testBit k) t) 8) ?_ (fun q => ?_) g ?_
  · unfold rcd
    rw [decide_eq_true hc, Bool.and_true, decide_eq_true_eq, tb_sub (by omega) (by omega)]
    intro k hk h1
    rw [zsN_at _ 8 (by decide) k hk, Bool.and_eq_true] at h1
    unfold zfs at h1
    rw [Bool.and_eq_true] at h1
    exact h1.2.1
  · rw [q] at hc
    have : zpop 9 0 = 0 := by decide
    omega
  · have := zsN_le (f := zfs (fun k => g.testBit k) t) (g := fun k => g.testBit k) 8 (fun k hk h1 => by unfold zfs at h1; rw [Bool.and_eq_true] at h1; exact h1.1)
    rw [zsN_self8 g hg] at this
    exact this
/-- whether a group is good -/
def rgd (inv h : Nat → Int32) (t g : Nat) : Bool := decide (nI t ≤ nI (zpop 9 g)) && decide (nI (zpop 9 g) - nI (zpop 9 (rag inv h g (rmb inv h t g g).1)) ≤ (nI (zpop 9 g) - nI t) / 2)
theorem zgood_rgd (hg : g < 256) (ht : 1 ≤ t) (ht9 : t < 9) : zgood_ (nI t) (nI (2 * g)) (nI (2 * rg0 inv h g (rmb inv h t g g).1)) = rgd inv h t g := by
  have h0l : rg0 inv h g (rmb inv h t g g).1 < 256 := rg0_lt
  have p1 := zpop_le g (by omega)
  unfold zgood_ rgd
  rw [zbc_512 _ (by omega), zpop_2 _ hg, zbc_512 _ (by omega), zpop_2 _ h0l]
  by_cases hn : t ≤ zpop 9 g
  · rw [show rg0 inv h g (rmb inv h t g g).1 = rag inv h g (rmb inv h t g g).1 from if_neg (rmb_ne hg ht hn)]
  · rw [decide_eq_false (p := nI t ≤ nI (zpop 9 g)) (fun q => hn ((nI_leI (by omega) (by omega)).mp q)), Bool.false_and, Bool.false_and]
end RMB



/-! sets of numbers below 9 -/
theorem tb_zbt : ∀ q, q < 512 → ∀ k, k < 9 → zbt (nI q) k = q.testBit k := by decide +kernel
theorem zsN_tb : ∀ n, n < 9 → ∀ q, q < 2 ^ n → ∀ k, k < 9 → (q + 2 ^ n).testBit k = (decide (k = n) || q.testBit k) := by decide +kernel
theorem zsN_at (f : Nat → Bool) : ∀ n, n ≤ 9 → ∀ k, k < 9 → (zsetN f n).testBit k = (decide (k < n) && f k)
  | 0, _, k, _ => by
    show (0 : Nat).testBit k = _
    rw [Nat.zero_testBit, decide_eq_false (Nat.not_lt_zero k), Bool.false_and]
  | n + 1, h, k, hk => by
    have ih := zsN_at f n (by omega) k hk
    have h2 := (zset_N f n (by omega)).2
    show (zsetN f n + (if f n then 2 ^ n else 0)).testBit k = _
    by_cases hf : f n = true
    · rw [if_pos hf, zsN_tb n (by omega) _ h2 k hk, ih]
      by_cases e : k = n
      · subst e
        rw [decide_eq_true (p := k = k) rfl, decide_eq_true (Nat.lt_succ_self k), hf]
        rfl
      · rw [decide_eq_false e, show decide (k < n + 1) = decide (k < n) from decide_eq_decide.mpr (by omega)]
        rfl
    · rw [if_neg hf, Nat.add_zero, ih]
      by_cases e : k = n
      · subst e
        rw [decide_eq_false (Nat.lt_irrefl k), Bool.eq_false_iff.mpr hf, Bool.and_false, Bool.and_false]
      · rw [show decide (k < n + 1) = decide (k < n) from decide_eq_decide.mpr (by omega)]
theorem zsN_self : ∀ q, q < 512 → zsetN (fun k => q.testBit k) 9 = q := by decide +kernel
theorem zsN_congr {f g : Nat → Bool} : ∀ n, (∀ k, k < n → f k = g k) → zsetN f n = zsetN g n
  | 0, _ => rfl
  | n + 1, h => by
    show zsetN f n + (if f n then 2 ^ n else 0) = zsetN g n + (if g n then 2 ^ n else 0)
    rw [zsN_congr n (fun k hk => h k (by omega)), h n (by omega)]
theorem zset_congr {f g : Nat → Bool} : ∀ n, (∀ k, k < n → f k = g k) → zset f n = zset g n
  | 0, _ => rfl
  | n + 1, h => by
    show (if f n then zset f n ||| (1 <<< (nI n &&& 31)) else zset f n) = (if g n then zset g n ||| (1 <<< (nI n &&& 31)) else zset g n)
    rw [zset_congr n (fun k hk => h k (by omega)), h n (by omega)]
theorem zcnt_congr {f g : Nat → Bool} : ∀ n, (∀ k, k < n → f k = g k) → zcnt f n = zcnt g n
  | 0, _ => rfl
  | n + 1, h => by
    show zcnt f n + (if f n then 1 else 0) = zcnt g n + (if g n then 1 else 0)
    rw [zcnt_congr n (fun k hk => h k (by omega)), h n (by omega)]
theorem tb_ext {q r : Nat} (hq : q < 512) (hr : r < 512) (h : ∀ k, k < 9 → q.testBit k = r.testBit k) : q = r := by
  rw [← zsN_self q hq, ← zsN_self r hr]
  exact zsN_congr 9 h
theorem zpop_add : ∀ n, n < 9 → ∀ q, q < 2 ^ n → zpop 9 (q + 2 ^ n) = zpop 9 q + 1 := by decide +kernel
theorem zpop_cnt (f : Nat → Bool) : ∀ n, n ≤ 9 → zpop 9 (zsetN f n) = zcnt f n
  | 0, _ => by show zpop 9 0 = 0; decide
  | n + 1, h => by
    have ih := zpop_cnt f n (by omega)
    have h2 := (zset_N f n (by omega)).2
    show zpop 9 (zsetN f n + (if f n then 2 ^ n else 0)) = zcnt f n + (if f n then 1 else 0)
    by_cases hf : f n = true
    · rw [if_pos hf, if_pos hf, zpop_add n (by omega) _ h2, ih]
    · rw [if_neg hf, if_neg hf, Nat.add_zero, ih, Nat.add_zero]
theorem zcnt_mono {f g : Nat → Bool} : ∀ n, (∀ k, k < n → f k = true → g k = true) → zcnt f n ≤ zcnt g n
  | 0, _ => Nat.le_refl _
  | n + 1, h => by
    have ih := zcnt_mono n (fun k hk => h k (by omega))
    show zcnt f n + (if f n then 1 else 0) ≤ zcnt g n + (if g n then 1 else 0)
    by_cases hf : f n = true
    · rw [if_pos hf, if_pos (h n (by omega) hf)]; omega
    · rw [if_neg hf]; split <;> omega
theorem zcnt_same {f g : Nat → Bool} : ∀ n, (∀ k, k < n → f k = true → g k = true) → zcnt g n ≤ zcnt f n → ∀ k, k < n → f k = g k
  | 0, _, _, k, hk => absurd hk (Nat.not_lt_zero k)
  | n + 1, h, he, k, hk => by
    have hm := zcnt_mono (f := f) (g := g) n (fun k hk => h k (by omega))
    have he2 : zcnt g n + (if g n then 1 else 0) ≤ zcnt f n + (if f n then 1 else 0) := he
    by_cases hf : f n = true
    · have hg := h n (by omega) hf
      rw [if_pos hf, if_pos hg] at he2
      by_cases e : k = n
      · subst e; rw [hf, hg]
      · exact zcnt_same n (fun k hk => h k (by omega)) (by omega) k (by omega)
    · rw [if_neg hf] at he2
      by_cases hg : g n = true
      · rw [if_pos hg] at he2; omega
      · rw [if_neg hg] at he2
        by_cases e : k = n
        · subst e; rw [Bool.eq_false_iff.mpr hf, Bool.eq_false_iff.mpr hg]
        · exact zcnt_same n (fun k hk => h k (by omega)) (by omega) k (by omega)
theorem zcnt_step {f : Nat → Bool} {n : Nat} (h : f n = true) : zcnt f (n + 1) = zcnt f n + 1 := by
  show zcnt f n + (if f n then 1 else 0) = _
  rw [if_pos h]
theorem zcnt_skip {f : Nat → Bool} {n : Nat} (h : f n = false) : zcnt f (n + 1) = zcnt f n := by
  show zcnt f n + (if f n then 1 else 0) = _
  rw [h]; rfl
theorem zcnt_le {f : Nat → Bool} {p : Nat} : ∀ n, p ≤ n → zcnt f p ≤ zcnt f n
  | 0, h => by rw [Nat.le_zero.mp h]; exact Nat.le_refl _
  | n + 1, h => by
    by_cases e : p = n + 1
    · rw [e]; exact Nat.le_refl _
    · have := zcnt_le (f := f) n (show p ≤ n by omega)
      show _ ≤ zcnt f n + (if f n then 1 else 0)
      omega
theorem zcnt_n {f : Nat → Bool} : ∀ n, zcnt f n ≤ n
  | 0 => Nat.le_refl _
  | n + 1 => by
    have := zcnt_n (f := f) n
    show zcnt f n + (if f n then 1 else 0) ≤ n + 1
    split <;> omega
/-- the place of a member among the members tells it -/
theorem zcnt_inj {f : Nat → Bool} {n p : Nat} (hn : f n = true) (hp : f p = true) : zcnt f n = zcnt f p ↔ n = p := by
  constructor
  · intro e
    rcases Nat.lt_trichotomy n p with h | h | h
    · have := zcnt_le (f := f) p (show n + 1 ≤ p by omega)
      rw [zcnt_step hn] at this; omega
    · exact h
    · have := zcnt_le (f := f) n (show p + 1 ≤ n by omega)
      rw [zcnt_step hp] at this; omega
  · rintro rfl; rfl
theorem nI_and {a b : Nat} (ha : a < 2 ^ 31) (hb : b < 2 ^ 31) : nI a &&& nI b = nI (a &&& b) := by
  have hle : a &&& b ≤ a := Nat.and_le_left
  rw [← Int32.toBitVec_inj, Int32.toBitVec_and]
  apply BitVec.eq_of_toNat_eq
  rw [BitVec.toNat_and, pk_tn (by omega), pk_tn (by omega), pk_tn (by omega)]
theorem nI_bit {q k : Nat} (hq : q < 2 ^ 32) : (nI q).toBitVec.getLsbD k = q.testBit k := by
  show (nI q).toBitVec.toNat.testBit k = _
  rw [pk_tn hq]
/-- s & ~q is 0: s lies in q -/
theorem tb_sub {s q : Nat} (hs : s < 512) (hq : q < 512) : nI s &&& (nI q ^^^ (-1)) = 0 ↔ ∀ k, k < 9 → s.testBit k = true → q.testBit k = true := by
  have e : ∀ k, k < 32 → (nI s &&& (nI q ^^^ (-1))).toBitVec.getLsbD k = (s.testBit k && !q.testBit k) := fun k hk => by
    rw [Int32.toBitVec_and, Int32.toBitVec_xor, BitVec.getLsbD_and, BitVec.getLsbD_xor, nI_bit (by omega), nI_bit (by omega), show (-1 : Int32).toBitVec = BitVec.allOnes 32 from by decide, BitVec.getLsbD_allOnes, decide_eq_true hk, Bool.xor_true]
  have z : ∀ k, (0 : Int32).toBitVec.getLsbD k = false := fun k => by
    show (0#32).getLsbD k = false
    exact BitVec.getLsbD_zero
  constructor
  · intro h k hk h1
    have := e k (by omega)
    rw [h, z, h1, Bool.true_and] at this
    cases hh : q.testBit k with
    | true => rfl
    | false => rw [hh] at this; cases this
  · intro h
    rw [← Int32.toBitVec_inj]
    apply BitVec.eq_of_getLsbD_eq
    intro k hk
    rw [e k hk, z]
    by_cases h9 : k < 9
    · by_cases h1 : s.testBit k = true
      · rw [h1, h k h9 h1]; rfl
      · rw [Bool.eq_false_iff.mpr h1]; rfl
    · have : s.testBit k = false := Nat.testBit_lt_two_pow (Nat.lt_of_lt_of_le hs (show 2 ^ 9 ≤ 2 ^ k from Nat.pow_le_pow_right (by decide) (by omega)))
      rw [this]; rfl
/-! the curve, by numbers -/
theorem zr97_N {a : Nat} (h : a < 2 ^ 31) : zr97 (nI a) = nI (a % 97) := by
  unfold zr97
  rw [show (97 : Int32) = nI 97 from rfl]
  exact pk_rem h (by decide) (by decide)
theorem zfm_N {x n : Nat} (hx : x < 2 ^ 20) (hn : n < 97) : zfm (nI x - nI n) = nI ((x + 97 - n) % 97) := by
  rw [← Int32.toInt_inj, zfm_i, pk_sub_toInt (by omega) (by omega), nI_toInt (by omega)]
  omega
theorem zfm_s {x : Nat} (hx : x < 2 ^ 31) : zfm (nI x) = nI (x % 97) := by
  rw [← Int32.toInt_inj, zfm_i, nI_toInt hx, nI_toInt (by omega)]
  omega
theorem zmd_fm (x : Int32) : zmd x = zfm x := by
  have h := i97 x
  have hm : -97 < x.toInt.tmod 97 ∧ x.toInt.tmod 97 < 97 ∧ x.toInt.tmod 97 % 97 = x.toInt % 97 := by
    rcases Int.le_total 0 x.toInt with h | h
    · rw [Int.tmod_eq_emod_of_nonneg h]; omega
    · have h2 : x.toInt = -(-x.toInt) := by omega
      rw [h2, Int.neg_tmod, Int.tmod_eq_emod_of_nonneg (by omega)]; omega
  have h1 : (zr97 x + 97).toInt = x.toInt.tmod 97 + 97 := by
    rw [Int32.toInt_add]
    show ((x - x / 97 * 97).toInt + 97).bmod (2 ^ 32) = _
    rw [h]
    exact Int.bmod_eq_of_le (by omega) (by omega)
  have h2 := i97 (zr97 x + 97)
  rw [h1, Int.tmod_eq_emod_of_nonneg (by omega)] at h2
  rw [← Int32.toInt_inj, zfm_i]
  show ((zr97 x + 97) - (zr97 x + 97) / 97 * 97).toInt = _
  rw [h2]
  omega
def ntI (b : Nat → Bool) (iv : Nat → Nat) (x p a : Nat) : Nat → Nat
  | 0 => a
  | n + 1 => if n = p ∨ b n = false then ntI b iv x p a n else ntI b iv x p a n * ((x + 97 - n) % 97) % 97 * iv ((p + 97 - n) % 97) % 97
def ntO (b : Nat → Bool) (iv g : Nat → Nat) (x : Nat) : Nat → Nat
  | 0 => 0
  | n + 1 => if b n = false then ntO b iv g x n else (ntO b iv g x n + ntI b iv x n (g n) 9) % 97
/-- the inverses of the numbers below 97 -/
def zIv (inv : Nat → Int32) (iv : Nat → Nat) : Prop := ∀ j, j < 97 → inv j = nI (iv j) ∧ iv j < 97
section ZTH
variable {inv : Nat → Int32} {iv : Nat → Nat} {set : Int32} {b : Nat → Bool}
theorem zthI_N (hi : zIv inv iv) (hb : ∀ k, k < 9 → zbt set k = b k) {x p a : Nat} (hx : x < 97) (hp : p < 9) (ha : a < 97) : ∀ n, n ≤ 9 → zthI inv set (nI x) p n (nI a) = nI (ntI b iv x p a n) ∧ ntI b iv x p a n < 97
  | 0, _ => ⟨rfl, ha⟩
  | n + 1, h => by
    obtain ⟨h1, h2⟩ := zthI_N hi hb hx hp ha n (by omega)
    unfold zthI ntI
    by_cases e : n = p ∨ b n = false
    · rw [if_pos e, if_pos (by rw [hb n (by omega)]; exact e)]
      exact ⟨h1, h2⟩
    · rw [if_neg e, if_neg (by rw [hb n (by omega)]; exact e), h1, zfm_N (by omega) (by omega), zfm_N (by omega) (by omega), nI_clamp (by omega), (hi _ (Nat.mod_lt _ (by decide))).1, pk_mul]
      have m1 : (x + 97 - n) % 97 < 97 := Nat.mod_lt _ (by decide)
      have m2 := (hi ((p + 97 - n) % 97) (Nat.mod_lt _ (by decide))).2
      have k1 : ntI b iv x p a n * ((x + 97 - n) % 97) ≤ 96 * 96 := Nat.mul_le_mul (by omega) (by omega)
      rw [zr97_N (by omega), pk_mul]
      have k2 : ntI b iv x p a n * ((x + 97 - n) % 97) % 97 * iv ((p + 97 - n) % 97) ≤ 96 * 96 := Nat.mul_le_mul (by omega) (by omega)
      rw [zr97_N (by omega)]
      exact ⟨rfl, Nat.mod_lt _ (by decide)⟩
theorem zthO_N (hi : zIv inv iv) (hb : ∀ k, k < 9 → zbt set k = b k) {gv : Nat → Int32} {g : Nat → Nat} (hg : ∀ k, k < 9 → b k = true → gv k = nI (g k) ∧ g k < 97) {x : Nat} (hx : x < 97) : ∀ n, n ≤ 9 → zthO inv gv set (nI x) n = nI (ntO b iv g x n) ∧ ntO b iv g x n < 97
  | 0, _ => ⟨rfl, by show 0 < 97; decide⟩
  | n + 1, h => by
    obtain ⟨h1, h2⟩ := zthO_N hi hb hg hx n (by omega)
    unfold zthO ntO
    rw [hb n (by omega)]
    by_cases e : b n = false
    · rw [if_pos e, if_pos e]; exact ⟨h1, h2⟩
    · obtain ⟨g1, g2⟩ := hg n (by omega) (by cases hh : b n with | true => rfl | false => exact absurd hh e)
      obtain ⟨k1, k2⟩ := zthI_N hi hb (x := x) (p := n) hx (by omega) g2 9 (by decide)
      rw [if_neg e, if_neg e, g1, h1, k1, nI_add, zr97_N (by omega)]
      exact ⟨rfl, Nat.mod_lt _ (by decide)⟩
theorem zth_N (hi : zIv inv iv) (hb : ∀ k, k < 9 → zbt set k = b k) {gv : Nat → Int32} {g : Nat → Nat} (hg : ∀ k, k < 9 → b k = true → gv k = nI (g k) ∧ g k < 97) {x : Nat} (hx : x < 97) : zth inv gv set (nI x) = nI (ntO b iv g x 9) ∧ ntO b iv g x 9 < 97 := zthO_N hi hb hg hx 9 (by decide)
/-- what is given off the set doesn't count -/
theorem zthO_congr {gv gw : Nat → Int32} {x : Int32} (h : ∀ k, k < 9 → zbt set k = true → gv k = gw k) : ∀ n, n ≤ 9 → zthO inv gv set x n = zthO inv gw set x n
  | 0, _ => rfl
  | n + 1, hn => by
    unfold zthO
    rw [zthO_congr h n (by omega)]
    by_cases e : zbt set n = false
    · rw [if_pos e, if_pos e]
    · rw [if_neg e, if_neg e, h n (by omega) (by cases hh : zbt set n with | true => rfl | false => exact absurd hh e)]
theorem ntI_zero {x p a : Nat} (hxp : x ≠ p) (hb : b x = true) : ∀ n, x < n → ntI b iv x p a n = 0
  | 0, h => absurd h (Nat.not_lt_zero _)
  | n + 1, h => by
    unfold ntI
    by_cases e : n = x
    · subst e
      rw [if_neg (fun q => q.elim hxp (fun z => by rw [hb] at z; cases z)), show n + 97 - n = 97 by omega, show 97 % 97 = 0 from rfl, Nat.mul_zero, Nat.zero_mod, Nat.zero_mul, Nat.zero_mod]
    · rw [ntI_zero hxp hb n (by omega), Nat.zero_mul, Nat.zero_mod, Nat.zero_mul, Nat.zero_mod, ite_self]
theorem ntI_own (hv : ∀ d, 1 ≤ d → d < 97 → d * iv d % 97 = 1) {p a : Nat} (hp : p < 9) (ha : a < 97) : ∀ n, n ≤ 9 → ntI b iv p p a n = a
  | 0, _ => rfl
  | n + 1, h => by
    unfold ntI
    rw [ntI_own hv hp ha n (by omega)]
    by_cases e : n = p ∨ b n = false
    · rw [if_pos e]
    · rw [if_neg e]
      have hne : n ≠ p := fun q => e (Or.inl q)
      have h1 := hv ((p + 97 - n) % 97) (by omega) (Nat.mod_lt _ (by decide))
      generalize (p + 97 - n) % 97 = d at *
      rw [Nat.mul_mod, Nat.mod_mod, ← Nat.mul_mod, Nat.mul_assoc, Nat.mul_mod, h1, Nat.mul_one, Nat.mod_mod]
      exact Nat.mod_eq_of_lt ha
theorem ntO_own (hv : ∀ d, 1 ≤ d → d < 97 → d * iv d % 97 = 1) {g : Nat → Nat} {p : Nat} (hp : p < 9) (hb : b p = true) (hg : g p < 97) : ∀ n, n ≤ 9 → ntO b iv g p n = if p < n then g p else 0
  | 0, _ => rfl
  | n + 1, h => by
    unfold ntO
    rw [ntO_own hv hp hb hg n (by omega)]
    by_cases e : n = p
    · subst e
      rw [if_neg (by rw [hb]; decide), ntI_own hv hp hg 9 (by decide), if_neg (Nat.lt_irrefl n), if_pos (Nat.lt_succ_self n), Nat.zero_add]
      exact Nat.mod_eq_of_lt hg
    · have e9 : ∀ z, (if p < n + 1 then z else 0) = (if p < n then z else 0) := fun z => by
        by_cases c : p < n
        · rw [if_pos c, if_pos (by omega)]
        · rw [if_neg c, if_neg (by omega)]
      rw [e9 (g p), ntI_zero (fun q => e q.symm) hb 9 hp, Nat.add_zero]
      have : (if p < n then g p else 0) < 97 := by split <;> omega
      rw [Nat.mod_eq_of_lt this, ite_self]
/-- a curve goes through its own points -/
theorem zth_own (hi : zIv inv iv) (hv : ∀ d, 1 ≤ d → d < 97 → d * iv d % 97 = 1) (hb : ∀ k, k < 9 → zbt set k = b k) {gv : Nat → Int32} {g : Nat → Nat} (hg : ∀ k, k < 9 → b k = true → gv k = nI (g k) ∧ g k < 97) {p : Nat} (hp : p < 9) (hbp : b p = true) : zth inv gv set (nI p) = gv p := by
  rw [(zth_N hi hb hg (x := p) (by omega)).1, ntO_own hv hp hbp (hg p hp hbp).2 9 (by decide), if_pos hp]
  exact (hg p hp hbp).1.symm
/-! the reference's way: the points laid one behind another -/
theorem zm_I (hb : ∀ k, k < 9 → zbt set k = b k) {gv pt nb : Nat → Int32} {x : Int32} (hpt : ∀ n, n < 9 → b n = true → pt (zcnt b n) = nI n ∧ nb (zcnt b n) = gv n) {p : Nat} (hp : p < 9) (hbp : b p = true) : ∀ n, n ≤ 9 → zmI inv pt nb x (zcnt b p) (zcnt b n) = zthI inv set x p n (gv p)
  | 0, _ => (hpt p hp hbp).2
  | n + 1, h => by
    have ih := zm_I hb hpt (x := x) hp hbp n (by omega)
    by_cases e : b n = true
    · rw [zcnt_step e]
      show (if zcnt b n = zcnt b p then _ else _) = if n = p ∨ zbt set n = false then _ else _
      rw [hb n (by omega), e]
      by_cases e2 : n = p
      · rw [if_pos (by rw [e2]), if_pos (Or.inl e2)]; exact ih
      · rw [if_neg (fun q => e2 ((zcnt_inj e hbp).mp q)), if_neg (fun q => q.elim e2 (fun z => by cases z)), ih, zmd_fm, zmd_fm, (hpt n (by omega) e).1, (hpt p hp hbp).1]
    · have e3 : b n = false := Bool.eq_false_iff.mpr e
      rw [zcnt_skip e3, ih]
      exact zthI_s (Or.inr (by rw [hb n (by omega)]; exact e3))
theorem zm_O (hi : zIv inv iv) (hb : ∀ k, k < 9 → zbt set k = b k) {gv pt nb : Nat → Int32} {g : Nat → Nat} (hg : ∀ k, k < 9 → b k = true → gv k = nI (g k) ∧ g k < 97) {x : Nat} (hx : x < 97) (hpt : ∀ n, n < 9 → b n = true → pt (zcnt b n) = nI n ∧ nb (zcnt b n) = gv n) : ∀ n, n ≤ 9 → ∃ t, t ≤ 96 * n ∧ zmO inv pt nb (nI x) (zcnt b 9) (zcnt b n) = nI t ∧ zthO inv gv set (nI x) n = nI (t % 97)
  | 0, _ => ⟨0, by decide, rfl, rfl⟩
  | n + 1, h => by
    obtain ⟨t, h1, h2, h3⟩ := zm_O hi hb hg hx hpt n (by omega)
    unfold zthO
    rw [hb n (by omega)]
    by_cases e : b n = true
    · obtain ⟨g1, g2⟩ := hg n (by omega) e
      obtain ⟨k1, k2⟩ := zthI_N hi hb (x := x) (p := n) hx (by omega) g2 9 (by decide)
      have k3 := zm_I (inv := inv) hb hpt (x := nI x) (show n < 9 by omega) e 9 (by decide)
      refine ⟨t + ntI b iv x n (g n) 9, by omega, ?_, ?_⟩
      · rw [zcnt_step e]
        show zmO inv pt nb (nI x) (zcnt b 9) (zcnt b n) + zmI inv pt nb (nI x) (zcnt b n) (zcnt b 9) = _
        rw [h2, k3, g1, k1, nI_add]
      · rw [if_neg (by rw [e]; decide), h3, g1, k1, nI_add, zr97_N (by omega), Nat.mod_add_mod]
    · have e3 : b n = false := Bool.eq_false_iff.mpr e
      rw [zcnt_skip e3, if_pos e3]
      exact ⟨t, by omega, h2, h3⟩
theorem zm_th (hi : zIv inv iv) (hb : ∀ k, k < 9 → zbt set k = b k) {gv pt nb : Nat → Int32} {g : Nat → Nat} (hg : ∀ k, k < 9 → b k = true → gv k = nI (g k) ∧ g k < 97) {x : Nat} (hx : x < 97) (hpt : ∀ n, n < 9 → b n = true → pt (zcnt b n) = nI n ∧ nb (zcnt b n) = gv n) : zr97 (zmO inv pt nb (nI x) (zcnt b 9) (zcnt b 9)) = zth inv gv set (nI x) := by
  obtain ⟨t, h1, h2, h3⟩ := zm_O hi hb hg hx hpt 9 (by decide)
  rw [h2, zr97_N (by omega)]
  exact h3.symm
end ZTH


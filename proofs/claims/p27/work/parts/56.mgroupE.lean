
/-! the reference's group, exact -/
/-- what keeper k gives -/
def mgv (V : Nat → Nat → Int32) (si k : Nat) : Int32 := zr97 (V (300 + si) k + V (100 + k) 3)
theorem zcnt_2 {q : Nat} (hq : q < 256) : ∀ n, n ≤ 8 → zcnt (fun p => (2 * q).testBit p) (n + 1) = zcnt (fun k => q.testBit k) n
  | 0, _ => zcnt_skip (f := fun p => (2 * q).testBit p) (n := 0) (tb_2 q hq).1
  | n + 1, h => by
    have ih := zcnt_2 hq n (by omega)
    show zcnt (fun p => (2 * q).testBit p) (n + 1) + (if (2 * q).testBit (n + 1) then 1 else 0) = zcnt (fun k => q.testBit k) n + (if q.testBit n then 1 else 0)
    rw [ih, (tb_2 q hq).2 n (by omega)]
theorem zal_th {inv pt nb h : Nat → Int32} {iv : Nat → Nat} {q x : Nat} (hi : zIv inv iv) (hs : zSm h q) (hq : q < 256) (hx : x < 97) (hpt : ∀ n, n < 8 → q.testBit n = true → pt (zcnt (fun k => q.testBit k) n) = nI (n + 1) ∧ nb (zcnt (fun k => q.testBit k) n) = h n) : zr97 (zmO inv pt nb (nI x) (zcnt (fun k => q.testBit k) 8) (zcnt (fun k => q.testBit k) 8)) = zth inv (gvs h) (nI (2 * q)) (nI x) := by
  have key := zm_th (set := nI (2 * q)) (b := fun p => (2 * q).testBit p) (gv := gvs h) (pt := pt) (nb := nb) hi (fun k hk => tb_zbt (2 * q) (by omega) k hk) (hs.g hq (fun k _ h1 => h1)) hx (fun n hn h1 => by
    match n, hn, h1 with
    | 0, _, h1 => rw [(tb_2 q hq).1] at h1; cases h1
    | n + 1, hn, h1 =>
      rw [(tb_2 q hq).2 n (by omega)] at h1
      rw [zcnt_2 hq n (by omega)]
      exact hpt n (by omega) h1)
  rw [zcnt_2 hq 8 (Nat.le_refl 8)] at key
  exact key
/-- the points of a set laid, of the first i keepers -/
def zAl (V V2 : Nat → Nat → Int32) (si q i : Nat) : Prop := zKp msc V V2 ∧ ∀ n, n < i → q.testBit n = true → V2 8 (zcnt (fun k => q.testBit k) n) = nI (n + 1) ∧ V2 9 (zcnt (fun k => q.testBit k) n) = mgv V si n
theorem zKp.mg {V V2 : Nat → Nat → Int32} (h : zKp msc V V2) (si : Nat) : mgv V2 si = mgv V si := funext fun k => by
  unfold mgv
  rw [h (300 + si) (by unfold msc; omega), h (100 + k) (by unfold msc; omega)]
theorem zKp.r {V V2 : Nat → Nat → Int32} (h : zKp msc V V2) {r : Nat} (h8 : r ≠ 8) (h9 : r ≠ 9) : V2 r = V r := h r (by unfold msc; omega)
theorem zSm.sub {h : Nat → Int32} {g q : Nat} (hs : zSm h g) (hsub : ∀ k, k < 8 → q.testBit k = true → g.testBit k = true) : zSm h q := fun k hk h1 => hs k hk (hsub k hk h1)
section ZAL
variable {d : zD} {B : Nat → Nat} {V V2 : Nat → Nat → Int32} {nk ns ne ec : Nat} {G : zG} {si q i : Nat}
theorem zM.putPE (h : zM d B V nk ns ne ec G) (v : Nat → Int32) : zM d B (rset V 8 v) nk ns ne ec (zu G (B 8) (zI d 8 v)) ∧ mFr B nk ns ne G (zu G (B 8) (zI d 8 v)) :=
  ⟨h.put (ml_s 8) v rfl rfl (h.2.off (Or.inl (by decide))), zM.frput (ml_s 8) rfl⟩
theorem zM.putNE (h : zM d B V nk ns ne ec G) (v : Nat → Int32) : zM d B (rset V 9 v) nk ns ne ec (zu G (B 9) (zI d 8 v)) ∧ mFr B nk ns ne G (zu G (B 9) (zI d 8 v)) :=
  ⟨h.put (ml_s 9) v rfl rfl (h.2.off (Or.inl (by decide))), zM.frput (ml_s 9) rfl⟩
theorem zAl.z : zAl V V si q 0 := ⟨zKp.rf, fun n hn => absurd hn (Nat.not_lt_zero _)⟩
theorem zAl.skip (h : zAl V V2 si q i) (hf : q.testBit i = false) : zAl V V2 si q (i + 1) := by
  refine ⟨h.1, fun n hn h1 => h.2 n ?_ h1⟩
  have : n ≠ i := fun e => by rw [e, hf] at h1; cases h1
  omega
theorem zAl.add (h : zAl V V2 si q i) (hf : q.testBit i = true) : zAl V (rset (rset V2 8 (upd (V2 8) (zcnt (fun k => q.testBit k) i) (nI i + 1))) 9 (upd (V2 9) (zcnt (fun k => q.testBit k) i) (mgv V2 si i))) si q (i + 1) := by
  refine ⟨(h.1.tr (zKp.set (Or.inl rfl))).tr (zKp.set (Or.inr rfl)), fun n hn h1 => ?_⟩
  rw [rset_n (by decide), rset_s, rset_s]
  by_cases e : n = i
  · subst e
    rw [pk_us, pk_us, nI_1, h.1.mg]
    exact ⟨rfl, rfl⟩
  · have : zcnt (fun k => q.testBit k) n ≠ zcnt (fun k => q.testBit k) i := fun c => e ((zcnt_inj (f := fun k => q.testBit k) h1 hf).mp c)
    rw [pk_un this, pk_un this]
    exact h.2 n (by omega) h1
end ZAL
theorem zsN_t {f : Nat → Bool} {i : Nat} (hi : i < 9) (h : f i = true) : nI (zsetN f i) ||| (1 <<< (nI i &&& 31)) = nI (zsetN f (i + 1)) := by
  rw [zor_bit i hi _ (zset_N f i (by omega)).2]
  show _ = nI (zsetN f i + (if f i then 2 ^ i else 0))
  rw [if_pos h]
theorem zsN_f {f : Nat → Bool} {i : Nat} (h : f i = false) : nI (zsetN f i) ||| 0 = nI (zsetN f (i + 1)) := by
  rw [Int32.or_zero]
  show _ = nI (zsetN f i + (if f i then 2 ^ i else 0))
  rw [h]; rfl
/-- the numbers of a curve from the last one on, as the reference reckons them -/
def zcN (f : Nat → Int32) (x : Int32) (nn : Nat) : Nat → Int32
  | 0 => nI 0
  | n + 1 => zr97 (zcN f x nn n * x + f (nn - 1 - n))
theorem rmb_sub {inv h : Nat → Int32} {t g : Nat} (hg : g < 256) {m : Nat} (hm : m < 256) {k : Nat} (hk : k < 8) (h1 : (rmb inv h t g m).1.testBit k = true) : g.testBit k = true := by
  obtain ⟨l, i2⟩ := rmb_in (inv := inv) (h := h) (t := t) (g := g) m
  rcases i2 with ⟨e, -⟩ | ⟨-, e, -⟩
  · rw [e, Nat.zero_testBit] at h1; cases h1
  · exact (rcd_sub hg (by omega) e).1 k hk h1
theorem nI_lem {a b : Nat} (ha : a < 2 ^ 20) (hb : b < 2 ^ 20) : nI a ≤ nI b - 1 ↔ ¬ b ≤ a := by
  rw [Int32.le_iff_toInt_le, Int32.toInt_sub, nI_toInt (by omega), nI_toInt (by omega), show (1 : Int32).toInt = 1 from rfl, show ((b : Int) - 1).bmod (2 ^ 32) = (b : Int) - 1 from Int.bmod_eq_of_le (by omega) (by omega)]
  omega
/-- the zones of a set are few -/
theorem zzo_lt {set : Int32} {zo : Nat → Int32} : ∀ n, (∀ k, k < n → ∃ z, z < 4 ∧ zo k = nI z) → ∃ q, q < 16 ∧ zzo set zo n = nI q
  | 0, _ => ⟨0, by decide, rfl⟩
  | n + 1, h => by
    obtain ⟨q, hq, e⟩ := zzo_lt n (fun k hk => h k (by omega))
    obtain ⟨z, hz, ez⟩ := h n (by omega)
    have key : ∀ q, q < 16 → ∀ z, z < 4 → ∃ p, p < 16 ∧ nI q ||| (1 <<< (nI z &&& 31)) = nI p := fun q hq z hz => by
      have k2 : ∀ q, q < 16 → ∀ z, z < 4 → nI q ||| (1 <<< (nI z &&& 31)) = nI (q ||| 2 ^ z) ∧ q ||| 2 ^ z < 16 := by decide +kernel
      exact ⟨_, (k2 q hq z hz).2, (k2 q hq z hz).1⟩
    unfold zzo
    split
    · rw [e, ez]; exact key q hq z hz
    · exact ⟨q, hq, e⟩



theorem zSM.wf {N : Nat} {V W : Nat → Nat → Int32} {nk ns ne : Nat} (h : zSM N V W nk ns ne) : ∀ si, si < ns → ∃ f, f < 4 ∧ W (200 + si) 4 = nI f := fun si hsi => by
  obtain ⟨s1, ⟨f, hf, e⟩, -⟩ := h.2.2.1 si hsi
  exact ⟨f, hf, (s1 4 (by decide)).symm.trans e⟩
theorem zb_l1 {v : Int32} {b : Bool} (h : v = zb b) (c : ¬ v = 0) : (1 : Int64) = v.toInt64 := by
  subst h
  rw [(zb_n0 _).mp c]
  decide
theorem zb_l0 {v : Int32} (c : v = 0) : (0 : Int64) = v.toInt64 := by
  subst c
  decide
theorem lTe.b {d : zD} {A : Nat → Nat} {D : Nat → UInt64} {V1 : Nat → Nat → Int32} {nk ns ho : Nat} {G G1 : zG} {P : Int32 → (Nat → Nat → Int32) → Int32 → Prop} {v : Int32} {n : Int64} {x : UInt64} {y : Value} (hn : n = v.toInt64) (hT : zT d A D V1 nk ns G1) (hF : tFr A nk ns G G1) (ho1 : ∀ r, tlive nk ns r → A r ≠ ho) (hP : P 0 V1 v) : lTe d A nk ns ho G P (some (.int 0)) (zu G1 ho (zob 9 [.long n, .double x, y])) := by
  subst hn
  exact lTe.r hT hF ho1 hP
theorem jAs {d : zD} {V V' : Nat → Nat → Int32} {nk ns : Nat} {B : Nat → Nat} {W : Nat → Nat → Int32} {N ne ec : Nat} {G G1 : zG} {r : Option Value} {kk v : Int32} (h : zSM N V W nk ns ne) {T P : Int32 → Prop} {TM : Int32 → Int32 → (Nat → Nat → Int32) → Prop} (hC : cAs V T P kk V' v) (hM : mAq d B nk ns ne ec W G TM r G1) (hE : ∀ (W' : Nat → Nat → Int32) (t b : Int32), zSM N V W' nk ns ne → TM t b W' → ((kk = 0 ∧ T v) ∨ (kk ≠ 0 ∧ P kk)) → kk = t ∧ (kk = 0 → v = b)) : zJ d N V' nk ns nk ns B ne G kk v r G1 := by
  obtain ⟨hK, hC⟩ := hC
  obtain ⟨b, W', rfl, t, m1, k1, m2⟩ := hM
  obtain ⟨e1, e2⟩ := hE W' _ b (h.m k1) t hC
  exact ⟨b, B, W', ne, ec, rfl, m1, mNw.rf, m2, ((h.c hK).m k1).up (by omega), e1, e2⟩

theorem zSM_nd {N : Nat} {V W : Nat → Nat → Int32} {nk ns ne : Nat} (h : zSM N V W nk ns ne) : ∀ r, r ≤ 6 → ∀ k, k < 2 ^ (6 - r) → znode W ne (-1) 0 r k = V 9 (2 ^ (6 - r) + k)
  | 0, _, k, hk => by
    obtain ⟨e1, ⟨e2, t1, t2⟩, e3⟩ := h.2.2.2.1
    have hk2 : k < 64 := hk
    show (if nI k = -1 then (0 : Int32) else if k < ne then W (500 + k) 3 else 0) = V 9 (64 + k)
    rw [if_neg (zSM.n1 k (by omega)), t2 k hk2]
    by_cases c : k < ne
    · rw [if_pos c, if_pos c]; exact (e3 k c).2.2.2.symm
    · rw [if_neg c, if_neg c]
  | r + 1, hr, k, hk => by
    have e : 2 ^ (6 - r) = 2 * 2 ^ (6 - (r + 1)) := by rw [show 6 - r = 6 - (r + 1) + 1 by omega, Nat.pow_succ, Nat.mul_comm]
    have hp : 0 < 2 ^ (6 - (r + 1)) := Nat.pow_pos (by decide)
    have h32 : 2 ^ (6 - (r + 1)) ≤ 32 := by
      have : 2 ^ (6 - (r + 1)) ≤ 2 ^ 5 := Nat.pow_le_pow_right (by decide) (by omega)
      exact this
    have i1 := zSM_nd h r (by omega) (2 * k) (by omega)
    have i2 := zSM_nd h r (by omega) (2 * k + 1) (by omega)
    show zjo (znode W ne (-1) 0 r (2 * k)) (znode W ne (-1) 0 r (2 * k + 1)) = _
    rw [i1, i2, h.2.2.2.1.2.1.2.1 (2 ^ (6 - (r + 1)) + k) (by omega) (by omega), show 2 * (2 ^ (6 - (r + 1)) + k) = 2 ^ (6 - r) + 2 * k by omega]
    rfl
theorem zSM.nd {N : Nat} {V W : Nat → Nat → Int32} {nk ns ne : Nat} (h : zSM N V W nk ns ne) {r : Nat} (hr : r ≤ 6) {k : Nat} (hk : k < 2 ^ (6 - r)) : znode W ne (-1) 0 r k = V 9 (2 ^ (6 - r) + k) := zSM_nd h r hr k hk

theorem zsum_congr {f g : Nat → Int32} : ∀ n, (∀ k, k < n → f k = g k) → zsum f n = zsum g n
  | 0, _ => rfl
  | n + 1, h => by
    show zsum f n + f n = zsum g n + g n
    rw [zsum_congr n (fun k hk => h k (by omega)), h n (by omega)]
theorem qBk_eq {N : Nat} {V W : Nat → Nat → Int32} {nk ns ne : Nat} (h : zSM N V W nk ns ne) (hN : N < 2 ^ 20) (hnk : nk ≤ 8) {q : Nat} (hq : q < 12) : qBk V nk ns (nI q) = mBkA W nk ns ne q := by
  obtain ⟨a1, a2, a3, a4, a5⟩ := h.1
  have e9 : zcnt (fun k => decide (V (100 + k) 5 ≠ 0)) nk = zcnt (fun k => decide (W (100 + k) 4 ≠ 0)) nk := zcnt_congr nk fun k hk => by rw [(h.2.1 k hk).1.2.2.2.2]
  have e10 : zsum (fun i => zbc (zset (zcur (V (400 + i)) (V (200 + i) 3)) 8)) ns = zsum (fun i => nI (zpop 9 (zsetN (zgd (W (300 + i)) (W (400 + i)) (W (200 + i) 3)) 8))) ns := zsum_congr ns fun i hi => by
    rw [zset_congr (g := zgd (W (300 + i)) (W (400 + i)) (W (200 + i) 3)) 8 (fun k hk => h.cur hN hi hk), (zset_N _ 8 (by decide)).1]
    exact zbc_512 _ (by have := (zset_N (zgd (W (300 + i)) (W (400 + i)) (W (200 + i) 3)) 8 (by decide)).2; omega)
  have e11 : zsum (fun i => zbc (zset (zstl (V (400 + i)) (V (200 + i) 3)) 8)) ns = zsum (fun i => nI (zpop 9 (zsetN (zst (W (300 + i)) (W (400 + i)) (W (200 + i) 3)) 8))) ns := zsum_congr ns fun i hi => by
    rw [zset_congr (g := zst (W (300 + i)) (W (400 + i)) (W (200 + i) 3)) 8 (fun k hk => h.stl hN hi hk), (zset_N _ 8 (by decide)).1]
    exact zbc_512 _ (by have := (zset_N (zst (W (300 + i)) (W (400 + i)) (W (200 + i) 3)) 8 (by decide)).2; omega)
  have er : zrd 128 (V 9) 0 1 = znode W ne (-1) 0 6 0 := by
    rw [show (1 : Int32) = nI 1 from rfl, zrd_N (by decide) (by decide)]
    exact (h.nd (r := 6) (by decide) (k := 0) (by decide)).symm
  unfold qBk mBkA
  rw [a1, a2, a3, a4, a5, h.2.2.2.1.1, e9, e10, e11, er]
  have : q = 0 ∨ q = 1 ∨ q = 2 ∨ q = 3 ∨ q = 4 ∨ q = 5 ∨ q = 6 ∨ q = 7 ∨ q = 8 ∨ q = 9 ∨ q = 10 ∨ q = 11 := by omega
  rcases this with rfl | rfl | rfl | rfl | rfl | rfl | rfl | rfl | rfl | rfl | rfl | rfl <;> rfl


theorem qKe_eq {N : Nat} {V W : Nat → Nat → Int32} {nk ns ne : Nat} (h : zSM N V W nk ns ne) (hN : N < 2 ^ 20) (hnk : nk ≤ 8) {k q : Nat} (hk : k < nk) (hq : q < 7) : qKe V ns k (nI q) = mKeA W ns k q := by
  obtain ⟨⟨k1, k2, k3, k4, k5⟩, -⟩ := h.2.1 k hk
  have e5 : zcnt (fun i => decide (V (400 + i) k ≠ -1)) ns = zcnt (fun i => decide (W (300 + i) k ≠ -1)) ns := zcnt_congr ns fun i hi => by
    obtain ⟨-, -, E, hE, -, s4⟩ := h.2.2.1 i hi
    obtain ⟨t1, t2, t3⟩ := s4 k (by omega)
    rw [← t1]
    rcases t3 with ⟨u1, u2⟩ | ⟨-, s, e, hs, he, u1, u2⟩
    · rw [u1, u2]
    · rw [u1, u2, decide_eq_true (zSM.n1 s (by omega)), decide_eq_true (zSM.n1 e (by omega))]
  have e6 : zcnt (fun i => zstl (V (400 + i)) (V (200 + i) 3) k) ns = zcnt (fun i => zst (W (300 + i)) (W (400 + i)) (W (200 + i) 3) k) ns := zcnt_congr ns fun i hi => h.stl hN hi (by omega)
  unfold qKe mKeA
  rw [k1, k2, k3, k4, k5, e5, e6]
  have : q = 0 ∨ q = 1 ∨ q = 2 ∨ q = 3 ∨ q = 4 ∨ q = 5 ∨ q = 6 := by omega
  rcases this with rfl | rfl | rfl | rfl | rfl | rfl | rfl <;> rfl


theorem zch_good (f : Nat → Bool) (p : Nat → Int32) : ∀ n, (zch f p n = 0 → ∀ k, k < n → f k = false) ∧ ∀ b, zch f p n = b + 1 → b < n ∧ f b = true ∧ ∀ k, k < n → f k = true → (p b).toInt ≤ (p k).toInt ∧ ((p k).toInt ≤ (p b).toInt → b ≤ k)
  | 0 => ⟨fun _ k hk => absurd hk (Nat.not_lt_zero k), fun b h => by cases h⟩
  | n + 1 => by
    obtain ⟨h1, h2⟩ := zch_good f p n
    by_cases c : f n = true ∧ (zch f p n = 0 ∨ p n < p (zch f p n - 1))
    · rw [zch_t c.1 c.2]
      refine ⟨fun e => absurd e (Nat.succ_ne_zero n), fun b e => ?_⟩
      obtain rfl : n = b := by omega
      refine ⟨Nat.lt_succ_self _, c.1, fun k hk hf => ?_⟩
      by_cases ek : k = n
      · subst ek; exact ⟨Int.le_refl _, fun _ => Nat.le_refl _⟩
      · rcases c.2 with c2 | c2
        · rw [h1 c2 k (by omega)] at hf; cases hf
        · cases hz : zch f p n with
          | zero => rw [h1 hz k (by omega)] at hf; cases hf
          | succ b =>
            rw [hz] at c2
            have c3 : (p n).toInt < (p b).toInt := Int32.lt_iff_toInt_lt.mp c2
            have := ((h2 b hz).2.2 k (by omega) hf).1
            exact ⟨by omega, fun q => by omega⟩
    · rw [show zch f p (n + 1) = zch f p n from if_neg c]
      refine ⟨fun e k hk => ?_, fun b e => ?_⟩
      · by_cases ek : k = n
        · subst ek
          cases hf : f k with
          | false => rfl
          | true => exact absurd ⟨hf, Or.inl e⟩ c
        · exact h1 e k (by omega)
      · obtain ⟨g1, g2, g3⟩ := h2 b e
        refine ⟨by omega, g2, fun k hk hf => ?_⟩
        by_cases ek : k = n
        · subst ek
          have c3 : ¬ p k < p b := fun q => c ⟨hf, Or.inr (by rw [e]; exact q)⟩
          have c4 : (p b).toInt ≤ (p k).toInt := Int32.le_iff_toInt_le.mp (Int32.not_lt.mp c3)
          exact ⟨c4, fun _ => by omega⟩
        · exact g3 k (by omega) hf
theorem zcd_good (f : Nat → Bool) (p : Nat → Int32) (nk : Nat) : ∀ i, i ≤ nk → (zcd f p nk i = 0 → ∀ k, nk - i ≤ k → k < nk → f k = false) ∧ ∀ b, zcd f p nk i = b + 1 → nk - i ≤ b ∧ b < nk ∧ f b = true ∧ ∀ k, nk - i ≤ k → k < nk → f k = true → (p b).toInt ≤ (p k).toInt ∧ ((p k).toInt ≤ (p b).toInt → b ≤ k)
  | 0, _ => ⟨fun _ k hk hk2 => by omega, fun b h => by cases h⟩
  | i + 1, hi => by
    obtain ⟨h1, h2⟩ := zcd_good f p nk i (by omega)
    by_cases c : f (nk - 1 - i) = true ∧ (zcd f p nk i = 0 ∨ ¬ p (zcd f p nk i - 1) < p (nk - 1 - i))
    · rw [zcd_t c.1 c.2]
      refine ⟨fun e => by omega, fun b e => ?_⟩
      obtain rfl : nk - 1 - i = b := by omega
      refine ⟨by omega, by omega, c.1, fun k hk hk2 hf => ?_⟩
      by_cases ek : k = nk - 1 - i
      · rw [ek]; exact ⟨Int.le_refl _, fun _ => Nat.le_refl _⟩
      · rcases c.2 with c2 | c2
        · rw [h1 c2 k (by omega) hk2] at hf; cases hf
        · cases hz : zcd f p nk i with
          | zero => rw [h1 hz k (by omega) hk2] at hf; cases hf
          | succ b =>
            rw [hz] at c2
            have c3 : (p (nk - 1 - i)).toInt ≤ (p b).toInt := Int32.le_iff_toInt_le.mp (Int32.not_lt.mp c2)
            have := ((h2 b hz).2.2.2 k (by omega) hk2 hf).1
            exact ⟨by omega, fun _ => by omega⟩
    · rw [show zcd f p nk (i + 1) = zcd f p nk i from if_neg c]
      refine ⟨fun e k hk hk2 => ?_, fun b e => ?_⟩
      · by_cases ek : k = nk - 1 - i
        · subst ek
          cases hf : f (nk - 1 - i) with
          | false => rfl
          | true => exact absurd ⟨hf, Or.inl e⟩ c
        · exact h1 e k (by omega) hk2
      · obtain ⟨g1, g2, g3, g4⟩ := h2 b e
        refine ⟨by omega, g2, g3, fun k hk hk2 hf => ?_⟩
        by_cases ek : k = nk - 1 - i
        · subst ek
          have c3 : p b < p (nk - 1 - i) := Decidable.not_not.mp fun q => c ⟨hf, Or.inr (by rw [e]; exact q)⟩
          have c4 : (p b).toInt < (p (nk - 1 - i)).toInt := Int32.lt_iff_toInt_lt.mp c3
          exact ⟨by omega, fun q => by omega⟩
        · exact g4 k (by omega) hk2 hf
theorem zch_zcd {f g : Nat → Bool} {p q : Nat → Int32} {nk : Nat} (hf : ∀ k, k < nk → f k = g k) (hp : ∀ k, k < nk → p k = q k) : zch f p nk = zcd g q nk nk := by
  obtain ⟨a1, a2⟩ := zch_good f p nk
  obtain ⟨b1, b2⟩ := zcd_good g q nk nk (Nat.le_refl _)
  rw [Nat.sub_self] at b1 b2
  cases ha : zch f p nk with
  | zero =>
    cases hb : zcd g q nk nk with
    | zero => rfl
    | succ b =>
      obtain ⟨-, c2, c3, -⟩ := b2 b hb
      rw [← hf b c2, a1 ha b c2] at c3; cases c3
  | succ a =>
    obtain ⟨c1, c2, c3⟩ := a2 a ha
    cases hb : zcd g q nk nk with
    | zero => rw [hf a c1, b1 hb a (Nat.zero_le _) c1] at c2; cases c2
    | succ b =>
      obtain ⟨-, d2, d3, d4⟩ := b2 b hb
      have x1 := c3 b d2 (by rw [hf b d2]; exact d3)
      have x2 := d4 a (Nat.zero_le _) c1 (by rw [← hf a c1]; exact c2)
      rw [hp a c1, hp b d2] at x1
      have : a = b := by omega
      rw [this]
theorem zpri_congr {set : Int32} {p q : Nat → Int32} : ∀ n, (∀ k, k < n → p k = q k) → zpri set p n = zpri set q n
  | 0, _ => rfl
  | n + 1, h => by
    unfold zpri
    rw [zpri_congr n (fun k hk => h k (by omega)), h n (by omega)]
theorem zcnt_put {f : Nat → Bool} {b : Nat} : ∀ n, zcnt (fun k => f k || decide (b = k + 1)) n ≤ zcnt f n + (if 1 ≤ b ∧ b ≤ n then 1 else 0)
  | 0 => Nat.zero_le _
  | n + 1 => by
    have ih := zcnt_put (f := f) (b := b) n
    show zcnt (fun k => f k || decide (b = k + 1)) n + (if (f n || decide (b = n + 1)) = true then 1 else 0) ≤ zcnt f n + (if f n = true then 1 else 0) + (if 1 ≤ b ∧ b ≤ n + 1 then 1 else 0)
    by_cases e : b = n + 1
    · rw [if_neg (show ¬ (1 ≤ b ∧ b ≤ n) by omega)] at ih
      rw [if_pos (show 1 ≤ b ∧ b ≤ n + 1 by omega)]
      split <;> split <;> omega
    · rw [decide_eq_false e, Bool.or_false]
      by_cases c : 1 ≤ b ∧ b ≤ n
      · rw [if_pos c] at ih
        rw [if_pos (show 1 ≤ b ∧ b ≤ n + 1 by omega)]
        omega
      · rw [if_neg c] at ih
        rw [if_neg (show ¬ (1 ≤ b ∧ b ≤ n + 1) by omega)]
        omega
theorem zcnt_put1 {f : Nat → Bool} {b n : Nat} (hb : b < n) (hf : f b = false) : zcnt (fun k => f k || decide (b + 1 = k + 1)) n = zcnt f n + 1 := by
  have h1 := zcnt_put (f := f) (b := b + 1) n
  rw [if_pos (show 1 ≤ b + 1 ∧ b + 1 ≤ n by omega)] at h1
  have h2 : zcnt f n ≤ zcnt (fun k => f k || decide (b + 1 = k + 1)) n := zcnt_mono n (fun k _ h => by rw [h]; rfl)
  by_cases e : zcnt (fun k => f k || decide (b + 1 = k + 1)) n = zcnt f n + 1
  · exact e
  · exfalso
    have h3 := zcnt_same (f := f) (g := fun k => f k || decide (b + 1 = k + 1)) n (fun k _ h => by rw [h]; rfl) (by omega) b hb
    rw [hf, decide_eq_true (p := b + 1 = b + 1) rfl] at h3
    cases h3
section ZBEQ
variable {h nk : Nat} {f : Nat → Bool} {p q : Nat → Int32}
theorem zbB_rbB (hk : nk ≤ 8) (hf : ∀ k, k < nk → h.testBit k = f k) (hp : ∀ k, k < nk → p k = q k) : ∀ n, zbB h nk p n = rbB f nk q n
  | 0 => rfl
  | n + 1 => by
    have ih := zbB_rbB hk hf hp n
    show zput (zbB h nk p n) (zch (fun k => (zlft h (zbB h nk p n)).testBit k) p nk) = zput (rbB f nk q n) (zcd (fun k => f k && !(rbB f nk q n).testBit k) q nk nk)
    rw [ih, zch_zcd (g := fun k => f k && !(rbB f nk q n).testBit k) (q := q) (fun k hk2 => by
      show (zlft h (rbB f nk q n)).testBit k = (f k && !(rbB f nk q n).testBit k)
      rw [zlft_at (by omega), hf k hk2]) hp]
theorem rbB_pop (hk : nk ≤ 8) : ∀ n, zcnt (fun k => (rbB f nk q n).testBit k) 9 ≤ n
  | 0 => by
    show zcnt (fun k => (0 : Nat).testBit k) 9 ≤ 0
    rw [zcnt_congr (g := fun _ => false) 9 (fun k _ => Nat.zero_testBit k)]
    decide
  | n + 1 => by
    have ih := rbB_pop hk n
    have hl := rbB_lt hk f q n
    have hc := zcd_le (fun k => f k && !(rbB f nk q n).testBit k) q nk nk (Nat.le_refl _)
    have e := zcnt_congr (f := fun k => (rbB f nk q (n + 1)).testBit k) (g := fun k => (rbB f nk q n).testBit k || decide (zcd (fun k => f k && !(rbB f nk q n).testBit k) q nk nk = k + 1)) 9 (fun k hk9 => zput_at hl (by omega) hk9)
    have e2 := zcnt_put (f := fun k => (rbB f nk q n).testBit k) (b := zcd (fun k => f k && !(rbB f nk q n).testBit k) q nk nk) 9
    have e3 : (if 1 ≤ zcd (fun k => f k && !(rbB f nk q n).testBit k) q nk nk ∧ zcd (fun k => f k && !(rbB f nk q n).testBit k) q nk nk ≤ 9 then 1 else 0) ≤ 1 := by split <;> omega
    rw [e]
    omega
theorem rbB_ok (hk : nk ≤ 8) : ∀ n, zany (rno f nk q) n = false → zcnt (fun k => (rbB f nk q n).testBit k) 9 = n ∧ ∀ k, k < 9 → (rbB f nk q n).testBit k = true → k < nk ∧ f k = true
  | 0, _ => ⟨Nat.le_zero.mp (rbB_pop hk 0), fun k _ h => by rw [show rbB f nk q 0 = 0 from rfl, Nat.zero_testBit] at h; cases h⟩
  | n + 1, h => by
    have h0 : (zany (rno f nk q) n || rno f nk q n) = false := h
    rw [Bool.or_eq_false_iff] at h0
    obtain ⟨i1, i2⟩ := rbB_ok hk n h0.1
    have hne : ¬ zcd (fun k => f k && !(rbB f nk q n).testBit k) q nk nk = 0 := of_decide_eq_false h0.2
    have hl := rbB_lt hk f q n
    obtain ⟨-, g2⟩ := zcd_good (fun k => f k && !(rbB f nk q n).testBit k) q nk nk (Nat.le_refl _)
    obtain ⟨b, eb⟩ : ∃ b, zcd (fun k => f k && !(rbB f nk q n).testBit k) q nk nk = b + 1 := ⟨zcd (fun k => f k && !(rbB f nk q n).testBit k) q nk nk - 1, by omega⟩
    obtain ⟨-, b2, b3, -⟩ := g2 b eb
    rw [Bool.and_eq_true, Bool.not_eq_true'] at b3
    have hat : ∀ k, k < 9 → (rbB f nk q (n + 1)).testBit k = ((rbB f nk q n).testBit k || decide (b + 1 = k + 1)) := fun k hk9 => by
      show (zput (rbB f nk q n) (zcd (fun k => f k && !(rbB f nk q n).testBit k) q nk nk)).testBit k = _
      rw [eb]
      exact zput_at hl (by omega) hk9
    refine ⟨?_, fun k hk9 h1 => ?_⟩
    · rw [zcnt_congr (g := fun k => (rbB f nk q n).testBit k || decide (b + 1 = k + 1)) 9 hat, zcnt_put1 (by omega) b3.2, i1]
    · rw [hat k hk9, Bool.or_eq_true, decide_eq_true_eq] at h1
      rcases h1 with h1 | h1
      · exact i2 k hk9 h1
      · obtain rfl : b = k := by omega
        exact ⟨b2, b3.1⟩
theorem zBo_rBo (hk : nk ≤ 8) (hh : h < 256) (hf : ∀ k, k < nk → h.testBit k = f k) (hn : ∀ k, nk ≤ k → k < 8 → h.testBit k = false) (hp : ∀ k, k < nk → p k = q k) {t : Nat} (ht : t ≤ 4) : zBo h nk t p = rBo f nk t q := by
  have p9 := zpop_le h (by omega)
  have e9 : zpop 9 h = zcnt (fun k => h.testBit k) 9 := by
    have := zpop_cnt (fun k => h.testBit k) 9 (by decide)
    rw [zsN_self h (by omega)] at this
    exact this
  have h8 : h.testBit 8 = false := Nat.testBit_lt_two_pow hh
  unfold zBo rBo
  by_cases c : t ≤ zpop 9 h
  · rw [if_pos (nI_le c (by omega))]
    have hno : zany (rno f nk q) t = false := by
      have key : ∀ n, n ≤ t → zany (rno f nk q) n = false := by
        intro n
        induction n with
        | zero => intro _; rfl
        | succ n ih =>
          intro hnt
          refine zany_f (ih (by omega)) (decide_eq_false fun e => ?_)
          have g1 := (zcd_good (fun k => f k && !(rbB f nk q n).testBit k) q nk nk (Nat.le_refl _)).1 e
          have hp := rbB_pop (f := f) (q := q) hk n
          have hm : zcnt (fun k => h.testBit k) 9 ≤ zcnt (fun k => (rbB f nk q n).testBit k) 9 := zcnt_mono 9 fun k hk9 hb => by
            by_cases kn : k < nk
            · have := g1 k (by omega) kn
              rw [← hf k kn, hb, Bool.true_and] at this
              cases hz : (rbB f nk q n).testBit k with
              | true => rfl
              | false => rw [hz] at this; cases this
            · by_cases k8 : k < 8
              · rw [hn k (by omega) k8] at hb; cases hb
              · obtain rfl : k = 8 := by omega
                rw [h8] at hb; cases hb
          omega
      exact key t (Nat.le_refl _)
    rw [hno, if_neg (by decide), zbB_rbB hk hf hp]
  · rw [if_neg (fun z => c ((nI_leI (by omega) (by omega)).mp z))]
    have hyes : zany (rno f nk q) t = true := by
      cases hz : zany (rno f nk q) t with
      | true => rfl
      | false =>
        exfalso
        obtain ⟨i1, i2⟩ := rbB_ok (f := f) (q := q) hk t hz
        have hm : zcnt (fun k => (rbB f nk q t).testBit k) 9 ≤ zcnt (fun k => h.testBit k) 9 := zcnt_mono 9 fun k hk9 hb => by
          obtain ⟨k1, k2⟩ := i2 k hk9 hb
          show h.testBit k = true
          rw [hf k k1]; exact k2
        omega
    rw [hyes, if_pos rfl]
end ZBEQ
theorem qSe_eq {N : Nat} {V W : Nat → Nat → Int32} {nk ns ne : Nat} (h : zSM N V W nk ns ne) (hN : N < 2 ^ 20) (hnk : nk ≤ 8) {si t q : Nat} (hsi : si < ns) (ht4 : t ≤ 4) (hq : q < 9) : qSe V nk si t (nI q) = mSeA W nk si t q := by
  obtain ⟨s1, -, E, hE, s3, s4⟩ := h.2.2.1 si hsi
  have hl := (zset_N (zcur (V (400 + si)) (V (200 + si) 3)) 8 (by decide)).2
  have hp : ∀ k, k < nk → V (100 + k) 2 = W (100 + k) 1 := fun k hk => (h.2.1 k hk).1.2.1
  have hb : zBo (zsetN (zcur (V (400 + si)) (V (200 + si) 3)) 8) nk t (fun k => V (100 + k) 2) = rBo (zgd (W (300 + si)) (W (400 + si)) (W (200 + si) 3)) nk t (fun k => W (100 + k) 1) := by
    refine zBo_rBo hnk (by omega) (fun k hk => ?_) (fun k h1 h2 => ?_) hp ht4
    · rw [zsN_at _ 8 (by decide) k (by omega), decide_eq_true (p := k < 8) (by omega), Bool.true_and]
      exact h.cur hN hsi (by omega)
    · rw [zsN_at _ 8 (by decide) k (by omega), decide_eq_true h2, Bool.true_and, h.cur hN hsi h2]
      cases hz : zgd (W (300 + si)) (W (400 + si)) (W (200 + si) 3) k with
      | false => rfl
      | true => exact absurd (h.gv hsi h2 hz).1 (by omega)
  have e4 : zset (zcur (V (400 + si)) (V (200 + si) 3)) 8 = zset (zgd (W (300 + si)) (W (400 + si)) (W (200 + si) 3)) 8 := zset_congr 8 fun k hk => h.cur hN hsi hk
  have e5 : zset (zstl (V (400 + si)) (V (200 + si) 3)) 8 = zset (zst (W (300 + si)) (W (400 + si)) (W (200 + si) 3)) 8 := zset_congr 8 fun k hk => h.stl hN hsi hk
  unfold qSe mSeA
  rw [hb, e4, e5, s1 0 (by decide), s1 1 (by decide), s1 2 (by decide), s1 3 (by decide), s1 4 (by decide), zpri_congr (q := fun k => W (100 + k) 1) nk hp]
  have : q = 0 ∨ q = 1 ∨ q = 2 ∨ q = 3 ∨ q = 4 ∨ q = 5 ∨ q = 6 ∨ q = 7 ∨ q = 8 := by omega
  rcases this with rfl | rfl | rfl | rfl | rfl | rfl | rfl | rfl | rfl <;> rfl


theorem qSh_eq {N : Nat} {V W : Nat → Nat → Int32} {nk ns ne : Nat} (h : zSM N V W nk ns ne) (hN : N < 2 ^ 20) (hnk : nk ≤ 8) {si ki : Nat} (hsi : si < ns) (hki : ki < nk) (w : Int32) : qSh V si ki w = qSm W si ki w := by
  obtain ⟨s1, -, E, hE, s3, s4⟩ := h.2.2.1 si hsi
  obtain ⟨t1, t2, t3⟩ := s4 ki (by omega)
  obtain ⟨⟨-, -, -, k4, -⟩, -⟩ := h.2.1 ki hki
  unfold qSh qSm
  rcases t3 with ⟨u1, u2⟩ | ⟨-, s, e, hs, he, u1, u2⟩
  · have h9 : ¬ ((-1 : Int32) ≠ -1) := fun q => q rfl
    rw [← t1, ← t2, u1, u2, if_neg h9, if_pos (show (-1 : Int32) = -1 from rfl), ite_self, ite_self]
  · have eg : mgv W si ki = zr97 (nI s + V (100 + ki) 4) := by
      unfold mgv
      rw [← t1, u1, ← k4]
    rw [eg, ← t1, ← t2, u1, u2, if_pos (zSM.n1 e (by omega)), if_neg (zSM.n1 s (by omega))]


theorem zcnt_andn {f g : Nat → Bool} : ∀ n, (∀ k, k < n → g k = true → f k = true) → zcnt (fun k => f k && !g k) n + zcnt g n = zcnt f n
  | 0, _ => rfl
  | n + 1, h => by
    have ih := zcnt_andn n (fun k hk => h k (by omega))
    show zcnt (fun k => f k && !g k) n + (if (f n && !g n) = true then 1 else 0) + (zcnt g n + (if g n = true then 1 else 0)) = zcnt f n + (if f n = true then 1 else 0)
    by_cases hg : g n = true
    · have hf := h n (by omega) hg
      rw [hf, hg, if_neg (by decide), if_pos rfl]
      omega
    · have hg2 := Bool.eq_false_iff.mpr hg
      rw [hg2]
      by_cases hf : f n = true
      · rw [hf, if_pos (by decide), if_neg (by decide), if_pos rfl]; omega
      · rw [Bool.eq_false_iff.mpr hf, if_neg (by decide), if_neg (by decide)]; omega
theorem pop_andn {q a : Nat} (hq : q < 256) (ha : a < 256) (h : ∀ k, k < 8 → a.testBit k = true → q.testBit k = true) : nI (zpop 9 (zsetN (fun k => q.testBit k && !a.testBit k) 9)) = nI (zpop 9 q) - nI (zpop 9 a) := by
  have e1 := zpop_cnt (fun k => q.testBit k && !a.testBit k) 9 (by decide)
  have e2 := zcnt_andn (f := fun k => q.testBit k) (g := fun k => a.testBit k) 9 (fun k hk h1 => by
    by_cases h8 : k < 8
    · exact h k h8 h1
    · exfalso
      have p2 : 2 ^ 8 ≤ 2 ^ k := Nat.pow_le_pow_right (by decide) (by omega)
      rw [Nat.testBit_lt_two_pow (i := k) (x := a) (by omega)] at h1
      cases h1)
  have e3 := zpop_cnt (fun k => q.testBit k) 9 (by decide)
  have e4 := zpop_cnt (fun k => a.testBit k) 9 (by decide)
  rw [zsN_self q (by omega)] at e3
  rw [zsN_self a (by omega)] at e4
  have p := zpop_le q (by omega)
  rw [e1, ← Int32.toInt_inj, pk_sub_toInt (by omega) (by omega), nI_toInt (by have := zcnt_n (f := fun k => q.testBit k && !a.testBit k) 9; omega)]
  omega
theorem rmb_few {inv h : Nat → Int32} {t g : Nat} (hg : g < 256) (hn : zpop 9 g < t) (m : Nat) (hm : m < 256) : (rmb inv h t g m).1 = 0 := by
  obtain ⟨h1, h2⟩ := rmb_in (inv := inv) (h := h) (t := t) (g := g) m
  rcases h2 with ⟨e, -⟩ | ⟨-, e, -⟩
  · exact e
  · exfalso
    obtain ⟨c1, c2⟩ := rcd_sub hg (by omega) e
    have := pop_sub (q := (rmb inv h t g m).1) (r := g) (by omega) hg c1
    omega
theorem qGr_eq {N : Nat} {V W : Nat → Nat → Int32} {nk ns ne : Nat} (h : zSM N V W nk ns ne) (hN : N < 2 ^ 20) (hnk : nk ≤ 8) {i g t : Nat} (hi : i < ns) (hg : g < 256) (ht : W (200 + i) 0 = nI t) (ht1 : 1 ≤ t) (ht4 : t ≤ 4) {V4 : Nat → Nat → Int32} (hd : zDd V V4 nk i (nI g)) {q : Nat} (hq : q < 6) : qGr V4 nk i (nI q) = qWd W nk i g t (nI q) := by
  obtain ⟨k4, e12, hgv⟩ := h.dd hN hnk hi hg ht ht1 ht4 hd
  have hl := mgr_lt (V := W) (si := i) (s := g)
  have hra := rag_lt (inv := W 7) (h := mgv W i) (g := mgr W i g) (q := (rmb (W 7) (mgv W i) t (mgr W i g) (mgr W i g)).1)
  have hr0 := rg0_lt (inv := W 7) (h := mgv W i) (g := mgr W i g) (b := (rmb (W 7) (mgv W i) t (mgr W i g) (mgr W i g)).1)
  have f0 : V4 12 0 = nI t := by rw [e12]; rfl
  have f1 : V4 12 1 = nI (2 * mgr W i g) := by rw [e12]; rfl
  have f2 : V4 12 2 = nI (2 * (rmb (W 7) (mgv W i) t (mgr W i g) (mgr W i g)).1) := by rw [e12]; rfl
  have f3 : V4 12 3 = nI (2 * rg0 (W 7) (mgv W i) (mgr W i g) (rmb (W 7) (mgv W i) t (mgr W i g) (mgr W i g)).1) := by rw [e12]; rfl
  have hz0 : zbc (nI (2 * mgr W i g)) = nI (zpop 9 (mgr W i g)) := by rw [zbc_512 _ (by omega), zpop_2 _ hl]
  have hz3 : zbc (nI (2 * rg0 (W 7) (mgv W i) (mgr W i g) (rmb (W 7) (mgv W i) t (mgr W i g) (mgr W i g)).1)) = nI (zpop 9 (rg0 (W 7) (mgv W i) (mgr W i g) (rmb (W 7) (mgv W i) t (mgr W i g) (mgr W i g)).1)) := by rw [zbc_512 _ (by omega), zpop_2 _ hr0]
  have han := pop_andn hl hra (fun k hk h1 => rag_sub hk h1)
  have p9 := zpop_le (mgr W i g) (by omega)
  unfold qGr
  rw [f0, f1, f2, f3, hz0, hz3, shr_2 (by omega), (h.c k4).lw hi, zgood_rgd hl ht1 (by omega), show (0 : Int32) = nI 0 from nI_0.symm, h.val k4 hgv]
  unfold qWd
  rw [han]
  by_cases hn : t ≤ zpop 9 (mgr W i g)
  · have hb0 : (rmb (W 7) (mgv W i) t (mgr W i g) (mgr W i g)).1 ≠ 0 := rmb_ne hl ht1 hn
    have hr1 : rg0 (W 7) (mgv W i) (mgr W i g) (rmb (W 7) (mgv W i) t (mgr W i g) (mgr W i g)).1 = rag (W 7) (mgv W i) (mgr W i g) (rmb (W 7) (mgv W i) t (mgr W i g) (mgr W i g)).1 := if_neg hb0
    have hle : nI t ≤ nI (zpop 9 (mgr W i g)) := nI_le hn (by omega)
    rw [hr1, liars_eq hl hra, if_pos hle]
    by_cases hgo : nI (zpop 9 (mgr W i g)) - nI (zpop 9 (rag (W 7) (mgv W i) (mgr W i g) (rmb (W 7) (mgv W i) t (mgr W i g) (mgr W i g)).1)) ≤ (nI (zpop 9 (mgr W i g)) - nI t) / 2
    · have hgd : rgd (W 7) (mgv W i) t (mgr W i g) = true := by unfold rgd; rw [decide_eq_true hle, decide_eq_true hgo]; rfl
      rw [hgd, if_pos hgo]
      have : q = 0 ∨ q = 1 ∨ q = 2 ∨ q = 3 ∨ q = 4 ∨ q = 5 := by omega
      rcases this with rfl | rfl | rfl | rfl | rfl | rfl <;> rfl
    · have hgd : rgd (W 7) (mgv W i) t (mgr W i g) = false := by unfold rgd; rw [decide_eq_false (p := nI (zpop 9 (mgr W i g)) - nI (zpop 9 (rag (W 7) (mgv W i) (mgr W i g) (rmb (W 7) (mgv W i) t (mgr W i g) (mgr W i g)).1)) ≤ (nI (zpop 9 (mgr W i g)) - nI t) / 2) hgo, Bool.and_false]
      rw [hgd, if_neg hgo]
      have : q = 0 ∨ q = 1 ∨ q = 2 ∨ q = 3 ∨ q = 4 ∨ q = 5 := by omega
      rcases this with rfl | rfl | rfl | rfl | rfl | rfl <;> rfl
  · have hle : ¬ nI t ≤ nI (zpop 9 (mgr W i g)) := fun z => hn ((nI_leI (by omega) (by omega)).mp z)
    have hb0 : (rmb (W 7) (mgv W i) t (mgr W i g) (mgr W i g)).1 = 0 := rmb_few hl (by omega) _ hl
    have hr1 : rg0 (W 7) (mgv W i) (mgr W i g) (rmb (W 7) (mgv W i) t (mgr W i g) (mgr W i g)).1 = 0 := if_pos hb0
    have hgd : rgd (W 7) (mgv W i) t (mgr W i g) = false := by unfold rgd; rw [decide_eq_false (p := nI t ≤ nI (zpop 9 (mgr W i g))) hle, Bool.false_and]
    rw [hr1, if_neg hle, hgd, show zpop 9 0 = 0 from by decide]
    have : q = 0 ∨ q = 1 ∨ q = 2 ∨ q = 3 ∨ q = 4 ∨ q = 5 := by omega
    rcases this with rfl | rfl | rfl | rfl | rfl | rfl <;> rfl


theorem zpri_lt {set : Int32} {p : Nat → Int32} : ∀ n, (∀ k, k < n → ∃ q, q ≤ 99 ∧ p k = nI q) → ∃ s, s ≤ 99 * n ∧ zpri set p n = nI s
  | 0, _ => ⟨0, by decide, rfl⟩
  | n + 1, h => by
    obtain ⟨s, hs, e⟩ := zpri_lt n (fun k hk => h k (by omega))
    obtain ⟨q, hq, e2⟩ := h n (by omega)
    unfold zpri
    split
    · rw [e, e2, nI_add]; exact ⟨s + q, by omega, rfl⟩
    · exact ⟨s, by omega, e⟩
theorem nI_subneg {a b : Nat} (ha : a < 2 ^ 20) (hb : b < 2 ^ 20) : nI a - nI b < 0 ↔ a < b := by
  rw [Int32.lt_iff_toInt_lt, pk_sub_toInt (by omega) (by omega), show (0 : Int32).toInt = 0 from rfl]
  omega
theorem nI_sub0 {a b : Nat} (ha : a < 2 ^ 20) (hb : b < 2 ^ 20) : nI a - nI b = 0 ↔ a = b := by
  rw [← Int32.toInt_inj, pk_sub_toInt (by omega) (by omega), show (0 : Int32).toInt = 0 from rfl]
  omega
theorem fw_le {s h : Nat} (hs : s < 256) (hh : h < 256) (e : nI s &&& (nI h ^^^ (-1)) = 0) : s ≤ h := by
  have h1 := (tb_sub (by omega) (by omega)).mp e
  have := zsN_le (f := fun k => s.testBit k) (g := fun k => h.testBit k) 8 (fun k hk h2 => h1 k (by omega) h2)
  rw [zsN_self8 s hs, zsN_self8 h hh] at this
  exact this
theorem qFw_eq {N : Nat} {V W : Nat → Nat → Int32} {nk ns ne : Nat} (h : zSM N V W nk ns ne) (hN : N < 2 ^ 20) (hnk : nk ≤ 8) {si : Nat} (hsi : si < ns) : qFw V nk si = mFw W nk si := by
  obtain ⟨s1, -⟩ := h.2.2.1 si hsi
  have eh : zsetN (zcur (V (400 + si)) (V (200 + si) 3)) 8 = zsetN (zgd (W (300 + si)) (W (400 + si)) (W (200 + si) 3)) 8 := zsN_congr 8 fun k hk => h.cur hN hsi hk
  have hl := (zset_N (zgd (W (300 + si)) (W (400 + si)) (W (200 + si) 3)) 8 (by decide)).2
  have hp : ∀ k, k < nk → V (100 + k) 2 = W (100 + k) 1 := fun k hk => (h.2.1 k hk).1.2.1
  have hb : ∀ k, k < nk → ∃ q, q ≤ 99 ∧ W (100 + k) 1 = nI q := fun k hk => by
    obtain ⟨-, ⟨-, p, -, p2, p3⟩, -⟩ := h.2.1 k hk
    exact ⟨p, p2, by rw [← hp k hk]; exact p3⟩
  have ec : ∀ s, s ≤ 255 → fwc V nk si s = fmc W nk si s := fun s hs => by
    unfold fwc fmc
    rw [eh, s1 0 (by decide), s1 1 (by decide), zbc_512 s (by omega), zzo_congr (g := fun k => W (100 + k) 0) nk (fun k hk => (h.2.1 k hk).1.1)]
  have el : ∀ s b, s ≤ 255 → b ≤ 255 → fwl V nk (nI s) (nI b) = fml W nk s b := fun s b hs hb2 => by
    have p1 := zpop_le s (by omega)
    have p2 := zpop_le b (by omega)
    obtain ⟨x, hx, ex⟩ := zpri_lt (set := nI s) (p := fun k => W (100 + k) 1) nk hb
    obtain ⟨y, hy, ey⟩ := zpri_lt (set := nI b) (p := fun k => W (100 + k) 1) nk hb
    unfold fwl fml
    rw [zbc_512 s (by omega), zbc_512 b (by omega), zpri_congr (set := nI s) nk hp, zpri_congr (set := nI b) nk hp, ex, ey]
    by_cases c : zpop 9 s = zpop 9 b
    · rw [if_pos (by rw [c]), decide_eq_false (p := nI (zpop 9 s) - nI (zpop 9 b) < 0) (fun q => by have := (nI_subneg (by omega) (by omega)).mp q; omega), decide_eq_true ((nI_sub0 (by omega) (by omega)).mpr c), Bool.false_or, Bool.true_and]
      exact decide_eq_decide.mpr ((nI_ltI (by omega) (by omega)).trans (nI_subneg (by omega) (by omega)).symm)
    · rw [if_neg (fun q => c ((nI_eq (by omega) (by omega)).mp q)), decide_eq_false (p := nI (zpop 9 s) - nI (zpop 9 b) = 0) (fun q => c ((nI_sub0 (by omega) (by omega)).mp q)), Bool.false_and, Bool.or_false]
  unfold qFw mFw
  rw [eh]
  refine congrArg nI ?_
  rw [zfB_congr (c2 := fmc W nk si) (l2 := fml W nk) _ (fun s _ h2 => ec s (by omega)) (fun s b _ h2 _ h4 => el s b (by omega) (by omega))]
  refine (zfB_ext 255 (by omega) (fun s h1 h2 => ?_)).symm
  unfold fmc
  exact fw_1 (fun q => by have := fw_le (by omega) (by omega) q; omega)


/-- the law's sight of an asked double -/
def lTd (d : zD) (A : Nat → Nat) (nk ns ho : Nat) (G : zG) (P : Int32 → (Nat → Nat → Int32) → UInt64 → Prop) : Option Value → zG → Prop := fun r G1 => ∃ (kk : Int32) (D' : Nat → UInt64) (V' : Nat → Nat → Int32) (u : UInt64), r = some (.int kk) ∧ P kk V' u ∧ zT d A D' V' nk ns G1 ∧ zOut ho G1 ∧ lFr A nk ns ho G G1 ∧ (kk = 0 → ∃ (n : Int64) (y : Value), G1 ho = some (zob 9 [.long n, .double u, y]))
section LTD
variable {d : zD} {A : Nat → Nat} {D : Nat → UInt64} {V V1 : Nat → Nat → Int32} {nk ns ho : Nat} {G G1 : zG}
theorem lTd.x {P : Int32 → (Nat → Nat → Int32) → UInt64 → Prop} {k : Int32} (hk : k ≠ 0) (hT : zT d A D V1 nk ns G1) (hF : tFr A nk ns G G1) (hO : zOut ho G) (ho1 : ∀ r, tlive nk ns r → A r ≠ ho) (hP : P k V1 0) : lTd d A nk ns ho G P (some (.int k)) G1 := by
  obtain ⟨n, x, y, e⟩ := hO
  exact ⟨k, D, V1, 0, rfl, hP, hT, ⟨n, x, y, hF _ _ e (fun r hr => (ho1 r hr).symm)⟩, lFr.of hF, fun q => absurd q hk⟩
theorem lTd.r {P : Int32 → (Nat → Nat → Int32) → UInt64 → Prop} {n : Int64} {u : UInt64} {y : Value} (hT : zT d A D V1 nk ns G1) (hF : tFr A nk ns G G1) (ho1 : ∀ r, tlive nk ns r → A r ≠ ho) (hP : P 0 V1 u) : lTd d A nk ns ho G P (some (.int 0)) (zu G1 ho (zob 9 [.long n, .double u, y])) :=
  ⟨0, D, V1, u, rfl, hP, hT.out ho1, ⟨_, _, _, zu_s⟩, (lFr.of hF).nw, fun _ => ⟨_, _, zu_s⟩⟩
end LTD
def cLo (V : Nat → Nat → Int32) (nk ns : Nat) (x kk : Int32) (V' : Nat → Nat → Int32) (u : UInt64) : Prop := zKo V V' ∧ ((kk = 0 ∧ tLo V nk ns x u) ∨ (kk ≠ 0 ∧ zoo ns x ∧ kk = 1))
theorem dcmp_z {a : UInt64} (h : zmg a 1400) (op : CmpOp) : Op.cmpValue (FP.dcmp a a) op = 0 := by
  have h1 : FP.Core.val64 a ≠ .nan := (FP.Core.ne_nan a).mpr (by unfold zmg at h; omega)
  have h2 : FP.dcmp a a = some .eq := FP.Core.dcmp_self h1
  rw [h2]
  rfl
theorem dcmp_z2 {a b : UInt64} (h : a = b ∧ zmg a 1400) (op : CmpOp) : Op.cmpValue (FP.dcmp a b) op = 0 := by
  obtain ⟨rfl, h⟩ := h
  exact dcmp_z h op
theorem zL.ond {d : zD} {ho : Nat} {A : Nat → Nat} {D : Nat → UInt64} {V : Nat → Nat → Int32} {nk ns : Nat} {B : Nat → Nat} {W : Nat → Nat → Int32} {nk2 ns2 ne ec : Nat} {G G1 : zG} {u : UInt64} (hN : ∃ (n : Int64) (y : Value), G ho = some (zob 9 [.long n, .double u, y])) (h : zL d ho A D V nk ns B W nk2 ns2 ne ec G) (hF : mFr B nk2 ns2 ne G G1) : ∃ (n : Int64) (y : Value), G1 ho = some (zob 9 [.long n, .double u, y]) := by
  obtain ⟨n, y, e⟩ := hN
  exact ⟨n, y, hF _ _ e (fun q hq => (h.2.2.2.2.2 q hq).symm)⟩
theorem qLo_eq {N : Nat} {V W : Nat → Nat → Int32} {nk ns ne : Nat} (h : zSM N V W nk ns ne) (hN : N < 2 ^ 20) (hnk : nk ≤ 8) {si : Nat} (hsi : si < ns) : qLo V nk si = mLo W nk si := by
  obtain ⟨s1, -⟩ := h.2.2.1 si hsi
  unfold qLo mLo
  rw [s1 0 (by decide), zlsF_congr (g := zgd (W (300 + si)) (W (400 + si)) (W (200 + si) 3)) (q := fun k => W (100 + k) 2) nk (fun k hk => ⟨h.cur hN hsi (by omega), (h.2.1 k hk).1.2.2.1⟩)]
theorem j_lost {d : zD} {V V' : Nat → Nat → Int32} {nk ns : Nat} {B : Nat → Nat} {W : Nat → Nat → Int32} {N ne ec : Nat} {G G1 : zG} {r : Option Value} {x kk : Int32} {u : UInt64} (h : zSM N V W nk ns ne) (hN : N < 2 ^ 20) (hnk : nk ≤ 8) (hns : ns ≤ 6) (hC : cLo V nk ns x kk V' u) (hM : (mAqd d B nk ns ne ec W G (rLo nk ns x)) r G1) : ∃ (b : UInt64) (W' : Nat → Nat → Int32), r = some (.double b) ∧ zM d B W' nk ns ne ec G1 ∧ mFr B nk ns ne G G1 ∧ zSM (N + 1) V' W' nk ns ne ∧ kk = W' 0 0 ∧ (kk = 0 → u = b ∧ zmg u 1400) := by
  obtain ⟨hK, hC⟩ := hC
  obtain ⟨b, W', rfl, hT, m1, k1, m2⟩ := hM
  have h1 := h.m k1
  refine ⟨b, W', rfl, m1, m2, ((h.c hK).m k1).up (by omega), ?_⟩
  rcases hC with ⟨rfl, hu, si, hsi, rfl, eu⟩ | ⟨hz, a1, rfl⟩
  · rcases hT with ⟨c1, -⟩ | ⟨k9, hk9, ek, t0, rfl⟩
    · exact absurd ⟨si, hsi, rfl⟩ (zIx_2 (by omega) c1)
    · obtain rfl : k9 = si := (nI_eq (by omega) (by omega)).mp ek.symm
      exact ⟨t0.symm, fun _ => ⟨eu.trans (qLo_eq h1 hN hnk hsi), hu⟩⟩
  · rcases hT with ⟨-, t0⟩ | ⟨k9, hk9, ek, -⟩
    · exact ⟨t0.symm, fun q => absurd q hz⟩
    · exact absurd ⟨k9, hk9, ek⟩ (zIx_1 (by omega) a1)


theorem nd_off (W : Nat → Nat → Int32) (ne : Nat) (lf : Int32) {e : Nat} (he : e < 64) : ∀ r, r ≤ 6 → ∀ k, k < 2 ^ (6 - r) → e / 2 ^ r ≠ k → znode W ne (nI e) lf r k = znode W ne (-1) 0 r k
  | 0, _, k, hk, h => by
    have hk2 : k < 64 := hk
    rw [Nat.pow_zero, Nat.div_one] at h
    show (if nI k = nI e then lf else if k < ne then W (500 + k) 3 else 0) = (if nI k = -1 then (0 : Int32) else if k < ne then W (500 + k) 3 else 0)
    rw [if_neg (fun q => h ((nI_eq (by omega) (by omega)).mp q).symm), if_neg (zSM.n1 k (by omega))]
  | r + 1, hr, k, hk, h => by
    have e1 : 2 ^ (6 - r) = 2 * 2 ^ (6 - (r + 1)) := by rw [show 6 - r = 6 - (r + 1) + 1 by omega, Nat.pow_succ, Nat.mul_comm]
    have d := ndiv2 e (by omega) r (by omega)
    show zr9 (31 * znode W ne (nI e) lf r (2 * k) + 17 * znode W ne (nI e) lf r (2 * k + 1) + 5) = zr9 (31 * znode W ne (-1) 0 r (2 * k) + 17 * znode W ne (-1) 0 r (2 * k + 1) + 5)
    rw [nd_off W ne lf he r (by omega) (2 * k) (by omega) (by omega), nd_off W ne lf he r (by omega) (2 * k + 1) (by omega) (by omega)]
theorem zbs_k : ∀ e, e < 64 → ∀ n, n < 6 → zbt (nI e) n = decide (e / 2 ^ n % 2 = 1) ∧ ((64 + nI e) >>> (nI n &&& 31)) ^^^ 1 = nI (2 ^ (6 - n) + (if e / 2 ^ n % 2 = 0 then e / 2 ^ n + 1 else e / 2 ^ n - 1)) ∧ e / 2 ^ n < 2 ^ (6 - n) ∧ 2 ^ (6 - n) ≤ 64 ∧ (if e / 2 ^ n % 2 = 0 then e / 2 ^ n + 1 else e / 2 ^ n - 1) < 2 ^ (6 - n) := by decide +kernel
theorem zSM.bs {N : Nat} {V W : Nat → Nat → Int32} {nk ns ne : Nat} (h : zSM N V W nk ns ne) {e n : Nat} (he : e < 64) (hn : n < 6) : zbs (V 9) (nI e) (nI n) = znode W ne (-1) 0 n (if e / 2 ^ n % 2 = 0 then e / 2 ^ n + 1 else e / 2 ^ n - 1) := by
  obtain ⟨-, k2, k3, k4, k5⟩ := zbs_k e he n hn
  unfold zbs
  rw [k2, zrd_N (by omega) (by decide)]
  exact (h.nd (by omega) k5).symm
theorem zSM.ct {N : Nat} {V W : Nat → Nat → Int32} {nk ns ne : Nat} (h : zSM N V W nk ns ne) {e : Nat} (he : e < 64) (lf : Int32) : ∀ r, r ≤ 6 → zctr (V 9) (nI e) lf r = znode W ne (nI e) lf r (e / 2 ^ r)
  | 0, _ => by
    rw [Nat.pow_zero, Nat.div_one]
    exact (if_pos rfl).symm
  | r + 1, hr => by
    have ih := zSM.ct h he lf r (by omega)
    obtain ⟨k1, -, k3, k4, k5⟩ := zbs_k e he r (by omega)
    have d := ndiv2 e (by omega) r (by omega)
    have hb := h.bs he (n := r) (by omega)
    show (if zbt (nI e) r = true then zjo (zbs (V 9) (nI e) (nI r)) (zctr (V 9) (nI e) lf r) else zjo (zctr (V 9) (nI e) lf r) (zbs (V 9) (nI e) (nI r))) = zjo (znode W ne (nI e) lf r (2 * (e / 2 ^ (r + 1)))) (znode W ne (nI e) lf r (2 * (e / 2 ^ (r + 1)) + 1))
    rw [k1, ih, hb, ← d]
    by_cases c : e / 2 ^ r % 2 = 1
    · have c0 : ¬ e / 2 ^ r % 2 = 0 := by omega
      rw [if_neg c0] at k5
      rw [decide_eq_true c, if_pos rfl, if_neg c0, show 2 * (e / 2 ^ r / 2) + 1 = e / 2 ^ r by omega, show 2 * (e / 2 ^ r / 2) = e / 2 ^ r - 1 by omega, nd_off W ne lf he r (by omega) (e / 2 ^ r - 1) k5 (by omega)]
    · have c0 : e / 2 ^ r % 2 = 0 := by omega
      rw [if_pos c0] at k5
      rw [decide_eq_false c, if_neg (by decide), if_pos c0, show 2 * (e / 2 ^ r / 2) = e / 2 ^ r by omega, nd_off W ne lf he r (by omega) (e / 2 ^ r + 1) k5 (by omega)]

theorem nd_same (W : Nat → Nat → Int32) {ne : Nat} (hn : ne ≤ 64) {e : Nat} (he : e < ne) : ∀ r k, k < 2 ^ 20 → 2 ^ r * (k + 1) ≤ 2 ^ 20 → znode W ne (nI e) (W (500 + e) 3) r k = znode W ne (-1) 0 r k
  | 0, k, hk, _ => by
    show (if nI k = nI e then W (500 + e) 3 else if k < ne then W (500 + k) 3 else 0) = (if nI k = -1 then (0 : Int32) else if k < ne then W (500 + k) 3 else 0)
    rw [if_neg (zSM.n1 k (by omega))]
    by_cases c : k = e
    · subst c; rw [if_pos rfl, if_pos he]
    · rw [if_neg (fun q => c ((nI_eq (by omega) (by omega)).mp q))]
  | r + 1, k, hk, h2 => by
    have hp : 0 < 2 ^ r := Nat.pow_pos (by decide)
    have e1 : 2 ^ r * (2 * k + 1 + 1) ≤ 2 ^ 20 := by
      have : 2 ^ r * (2 * k + 1 + 1) = 2 ^ (r + 1) * (k + 1) := by rw [Nat.pow_succ, Nat.mul_assoc, show 2 * k + 1 + 1 = 2 * (k + 1) by omega]
      omega
    have e2 : 2 ^ r * (2 * k + 1) ≤ 2 ^ r * (2 * k + 1 + 1) := Nat.mul_le_mul_left _ (by omega)
    have e3 : 2 * k + 1 + 1 ≤ 2 ^ r * (2 * k + 1 + 1) := Nat.le_mul_of_pos_left _ hp
    show zr9 (31 * znode W ne (nI e) (W (500 + e) 3) r (2 * k) + 17 * znode W ne (nI e) (W (500 + e) 3) r (2 * k + 1) + 5) = zr9 (31 * znode W ne (-1) 0 r (2 * k) + 17 * znode W ne (-1) 0 r (2 * k + 1) + 5)
    rw [nd_same W hn he r (2 * k) (by omega) (by omega), nd_same W hn he r (2 * k + 1) (by omega) e1]
theorem neg1_le {E : Nat} (h : E < 2 ^ 31) : (-1 : Int32) ≤ nI E := by
  rw [Int32.le_iff_toInt_le, nI_toInt h, show (-1 : Int32).toInt = -1 from rfl]
  omega
/-- the register is whole -/
theorem zSM.wh {N : Nat} {V W : Nat → Nat → Int32} {nk ns ne : Nat} (h : zSM N V W nk ns ne) : zall (zwhf (V 6) (V 7) (V 8) (V 9)) ne = true := by
  have e2 : ne ≤ 64 := h.2.2.2.1.2.1.1
  refine (zall_iff ne).mpr fun e he => ?_
  unfold zwhf zcomes
  rw [decide_eq_true_eq, (h.2.2.2.1.2.2 e he).2.2.2, h.ct (e := e) (by omega) _ 6 (Nat.le_refl 6), show e / 2 ^ 6 = 0 from Nat.div_eq_of_lt (by omega), nd_same W e2 he 6 0 (by decide) (by decide), h.nd (r := 6) (by decide) (k := 0) (by decide), show (1 : Int32) = nI 1 from rfl, zrd_N (by decide) (by decide)]
theorem zSM.sd {N : Nat} {V W : Nat → Nat → Int32} {nk ns ne : Nat} (h : zSM N V W nk ns ne) (hN : N < 2 ^ 20) : ∀ si, si < ns → sdOk V si := fun si hsi k hk hne => by
  obtain ⟨-, -, E, hE, s3, s4⟩ := h.2.2.1 si hsi
  obtain ⟨-, -, t3⟩ := s4 k hk
  rcases t3 with ⟨-, u2⟩ | ⟨-, s, e, hs, he, u1, u2⟩
  · exact absurd u2 hne
  · exact ⟨s, hs, u1, by rw [u2, s3]; exact nI_le he (by omega)⟩
theorem zSM.rd {N : Nat} {V W : Nat → Nat → Int32} {nk ns ne : Nat} (h : zSM N V W nk ns ne) (hN : N < 2 ^ 20) : rdOk W nk ns := by
  refine ⟨fun si hsi k hk => ?_, fun k hk => ?_⟩
  · obtain ⟨s1, -, E, hE, s3, s4⟩ := h.2.2.1 si hsi
    obtain ⟨t1, t2, t3⟩ := s4 k hk
    rw [← t1, ← t2, ← s1 3 (by decide)]
    rcases t3 with ⟨u1, u2⟩ | ⟨-, s, e, hs, he, u1, u2⟩
    · rw [u1, u2, s3]
      exact ⟨neg1_le (by omega), Or.inl rfl⟩
    · rw [u1, u2, s3]
      exact ⟨nI_le he (by omega), Or.inr ⟨s, hs, rfl⟩⟩
  · obtain ⟨⟨-, -, -, k4, -⟩, -, l, hl, el⟩ := h.2.1 k hk
    exact ⟨l, hl, k4.symm.trans el⟩
theorem zSM.lie {N : Nat} {V W : Nat → Nat → Int32} {nk ns ne : Nat} (h : zSM N V W nk ns ne) : ∀ k, k < nk → ∃ l, l < 97 ∧ V (100 + k) 4 = nI l := fun k hk => (h.2.1 k hk).2.2
theorem zSM.snd {N : Nat} {V W : Nat → Nat → Int32} {nk ns ne : Nat} (h : zSM N V W nk ns ne) (hN : N < 2 ^ 20) {si : Nat} (hsi : si < ns) : sSnd V si = rSnd W si := by
  obtain ⟨s1, -, E, hE, s3, s4⟩ := h.2.2.1 si hsi
  unfold sSnd rSnd ocV ocW
  rw [s1 5 (by decide), s1 0 (by decide), roK_congr h.iv (g := zgp (zgd (W (300 + si)) (W (400 + si)) (W (200 + si) 3))) (gw := gvs (W (300 + si))) (fun k hk => by
    match k, hk with
    | 0, _ => rfl
    | k + 1, hk => exact h.cur hN hsi (by omega)) (fun k hk _ => by
    match k, hk with
    | 0, _ => rfl
    | k + 1, hk => exact (s4 k (by omega)).1)]
theorem zSM.allsnd {N : Nat} {V W : Nat → Nat → Int32} {nk ns ne : Nat} (h : zSM N V W nk ns ne) (hN : N < 2 ^ 20) : zall (sSnd V) ns = zall (rSnd W) ns := by
  rw [Bool.eq_iff_iff, zall_iff, zall_iff]
  exact ⟨fun q k hk => by rw [← h.snd hN hk]; exact q k hk, fun q k hk => by rw [h.snd hN hk]; exact q k hk⟩


theorem dAl_eq {N : Nat} {V W : Nat → Nat → Int32} {nk ns ne : Nat} (h : zSM N V W nk ns ne) (hN : N < 2 ^ 20) (hnk : nk ≤ 8) (hns : ns ≤ 6) (ht : ∀ i, i < ns → ∃ t, 1 ≤ t ∧ t ≤ 4 ∧ W (200 + i) 0 = nI t) {gq : Nat → Nat → Int32} (hg : ∀ i, i < ns → ∀ w, w < 6 → gq i w = qWd W nk i (2 ^ nk - 1) (W (200 + i) 0).toNatClampNeg (nI w)) : dAl V nk ns ne gq = rAl W nk ns ne := by
  unfold dAl rAl
  rw [h.wh, Bool.and_true, h.allsnd hN]
  have e1 : zdg 7507 (fun w => (qBk V nk ns (nI w)).toInt64) 12 = zdg 7507 (fun w => (mBkA W nk ns ne w).toInt64) 12 := zdg_congr 12 fun w hw => congrArg Int32.toInt64 (qBk_eq h hN hnk hw)
  have e2 : zdk (zdg 7507 (fun w => (mBkA W nk ns ne w).toInt64) 12) (fun k w => (qKe V ns k (nI w)).toInt64) 7 nk = zdk (zdg 7507 (fun w => (mBkA W nk ns ne w).toInt64) 12) (fun k w => (mKeA W ns k w).toInt64) 7 nk := zdk_congr nk fun k hk w hw => congrArg Int32.toInt64 (qKe_eq h hN hnk hk hw)
  have e3 : ∀ d, dgT (fun s => dSe V nk s (gq s)) d ns = dgT (fun s => rSeD W nk s) d ns := fun d => dgT_congr ns fun s hs x => by
    obtain ⟨t, t1, t4, et⟩ := ht s hs
    have e0 : V (200 + s) 0 = W (200 + s) 0 := (h.2.2.1 s hs).1 0 (by decide)
    have ec : (W (200 + s) 0).toNatClampNeg = t := by rw [et, nI_clamp (by omega)]
    unfold dSe rSeD
    rw [e0]
    exact dgS_congr (fun w hw => by rw [ec]; exact qSe_eq h hN hnk hs t4 hw) (fun k hk w hw => qSh_eq h hN hnk hs hk _) (fun w hw => hg s hs w hw) (qFw_eq h hN hnk hs) (qLo_eq h hN hnk hs)
  rw [e1, e2, e3]
  unfold dgE
  rw [zdg_congr (g := fun e => (W (500 + e) 3).toInt64) ne (fun e he => congrArg Int32.toInt64 (h.2.2.2.1.2.2 e he).2.2.2)]
theorem zSM.gq {N : Nat} {V W : Nat → Nat → Int32} {nk ns ne : Nat} (h : zSM N V W nk ns ne) (hN : N < 2 ^ 20) (hnk : nk ≤ 8) (ht : ∀ i, i < ns → ∃ t, 1 ≤ t ∧ t ≤ 4 ∧ W (200 + i) 0 = nI t) : ∀ si, si < ns → ∀ V4, zDd V V4 nk si (1 <<< (nI nk &&& 31) - 1) → ∀ w, w < 6 → qGr V4 nk si (nI w) = qWd W nk si (2 ^ nk - 1) (W (200 + si) 0).toNatClampNeg (nI w) := fun si hsi V4 hd w hw => by
  have hp2 : 2 ^ nk ≤ 256 := Nat.pow_le_pow_right (n := 2) (by decide) hnk
  have hp0 : 0 < 2 ^ nk := Nat.pow_pos (by decide)
  obtain ⟨t, t1, t4, et⟩ := ht si hsi
  rw [zall_eq hnk] at hd
  have ec : (W (200 + si) 0).toNatClampNeg = t := by rw [et, nI_clamp (by omega)]
  rw [ec]
  exact qGr_eq h hN hnk hsi (by omega) et t1 t4 hd hw

section QWN
variable {W W1 : Nat → Nat → Int32} {nk ns ne si g t : Nat}
theorem qWd_n (h : zKn W W1) {w : Int32} : qWd W1 nk si g t w = qWd W nk si g t w := by
  have e1 : mgr W1 si g = mgr W si g := by
    unfold mgr
    rw [h.row (r := 200 + si) (by omega) (by omega) (by omega), h.row (r := 300 + si) (by omega) (by omega) (by omega), h.row (r := 400 + si) (by omega) (by omega) (by omega)]
  have e2 : mgv W1 si = mgv W si := funext fun k => by
    unfold mgv
    rw [h.row (r := 300 + si) (by omega) (by omega) (by omega), h.row (r := 100 + k) (by omega) (by omega) (by omega)]
  have e3 : ∀ s, mlw W1 nk si s = mlw W nk si s := fun s => by
    unfold mlw
    rw [show (fun k => W1 (100 + k) 0) = (fun k => W (100 + k) 0) from funext fun k => by rw [h.row (r := 100 + k) (by omega) (by omega) (by omega)], h.row (r := 200 + si) (by omega) (by omega) (by omega), h.at0 (j := 2) (by decide) (by decide)]
  unfold qWd
  rw [e1, e2, e3, h.row (r := 7) (by decide) (by decide) (by decide)]
end QWN
def gqW (W : Nat → Nat → Int32) (nk : Nat) : Nat → Nat → Int32 := fun i w => qWd W nk i (2 ^ nk - 1) (W (200 + i) 0).toNatClampNeg (nI w)
theorem j_digest {N : Nat} {V W W1 : Nat → Nat → Int32} {nk ns ne : Nat} (h : zSM N V W nk ns ne) (k1 : zKn W W1) (hN : N < 2 ^ 20) (hnk : nk ≤ 8) (hns : ns ≤ 6) (ht : ∀ i, i < ns → ∃ t, 1 ≤ t ∧ t ≤ 4 ∧ W (200 + i) 0 = nI t) : dAl V nk ns ne (gqW W nk) = rAl W1 nk ns ne :=
  dAl_eq (h.m k1) hN hnk hns (fun i hi => by rw [k1.row (r := 200 + i) (by omega) (by omega) (by omega)]; exact ht i hi) (fun i hi w hw => by
    unfold gqW
    rw [qWd_n k1, k1.row (r := 200 + i) (by omega) (by omega) (by omega)])



/-- a number of the tree's row r, as the reference reckons it; one leaf may be told otherwise -/
def znode (W : Nat → Nat → Int32) (ne : Nat) (o lf : Int32) : Nat → Nat → Int32
  | 0, k => if nI k = o then lf else if k < ne then W (500 + k) 3 else 0
  | r + 1, k => zr9 (31 * znode W ne o lf r (2 * k) + 17 * znode W ne o lf r (2 * k + 1) + 5)

theorem zSM_nd {N : Nat} {V W : Nat → Nat → Int32} {nk ns ne : Nat} (h : zSM N V W nk ns ne) : ∀ r, r ≤ 6 → ∀ k, k < 2 ^ (6 - r) → znode W ne (-1) 0 r k = V 9 (2 ^ (6 - r) + k)
  | 0, _, k, hk => by
    obtain ⟨e1, ⟨e2, t1, t2⟩, e3⟩ := h.2.2.2.1
    have hk2 : k < 64 := hk
    show (if nI k = -1 then (0 : Int32) else if k < ne then W (500 + k) 3 else 0) = V 9 (64 + k)
    rw [if_neg (zSM.n1 k (by omega)), t2 k hk2]
    by_cases c : k < ne
    · rw [if_pos c, if_pos c]; exact (e3 k c).2.2.2.symm
    · rw [if_neg c, if_neg c]
  | r + 1, hr, k, hk => by
    have e : 2 ^ (6 - r) = 2 * 2 ^ (6 - (r + 1)) := by rw [show 6 - r = 6 - (r + 1) + 1 by omega, Nat.pow_succ, Nat.mul_comm]
    have hp : 0 < 2 ^ (6 - (r + 1)) := Nat.pow_pos (by decide)
    have h32 : 2 ^ (6 - (r + 1)) ≤ 32 := by
      have : 2 ^ (6 - (r + 1)) ≤ 2 ^ 5 := Nat.pow_le_pow_right (by decide) (by omega)
      exact this
    have i1 := zSM_nd h r (by omega) (2 * k) (by omega)
    have i2 := zSM_nd h r (by omega) (2 * k + 1) (by omega)
    show zjo (znode W ne (-1) 0 r (2 * k)) (znode W ne (-1) 0 r (2 * k + 1)) = _
    rw [i1, i2, h.2.2.2.1.2.1.2.1 (2 ^ (6 - (r + 1)) + k) (by omega) (by omega), show 2 * (2 ^ (6 - (r + 1)) + k) = 2 ^ (6 - r) + 2 * k by omega]
    rfl
theorem zSM.nd {N : Nat} {V W : Nat → Nat → Int32} {nk ns ne : Nat} (h : zSM N V W nk ns ne) {r : Nat} (hr : r ≤ 6) {k : Nat} (hk : k < 2 ^ (6 - r)) : znode W ne (-1) 0 r k = V 9 (2 ^ (6 - r) + k) := zSM_nd h r hr k hk

theorem nd_off (W : Nat → Nat → Int32) (ne : Nat) (lf : Int32) {e : Nat} (he : e < 64) : ∀ r, r ≤ 6 → ∀ k, k < 2 ^ (6 - r) → e / 2 ^ r ≠ k → znode W ne (nI e) lf r k = znode W ne (-1) 0 r k
  | 0, _, k, hk, h => by
    have hk2 : k < 64 := hk
    rw [Nat.pow_zero, Nat.div_one] at h
    show (if nI k = nI e then lf else if k < ne then W (500 + k) 3 else 0) = (if nI k = -1 then (0 : Int32) else if k < ne then W (500 + k) 3 else 0)
    rw [if_neg (fun q => h ((nI_eq (by omega) (by omega)).mp q).symm), if_neg (zSM.n1 k (by omega))]
  | r + 1, hr, k, hk, h => by
    have e1 : 2 ^ (6 - r) = 2 * 2 ^ (6 - (r + 1)) := by rw [show 6 - r = 6 - (r + 1) + 1 by omega, Nat.pow_succ, Nat.mul_comm]
    have d := ndiv2 e (by omega) r (by omega)
    show zr9 (31 * znode W ne (nI e) lf r (2 * k) + 17 * znode W ne (nI e) lf r (2 * k + 1) + 5) = zr9 (31 * znode W ne (-1) 0 r (2 * k) + 17 * znode W ne (-1) 0 r (2 * k + 1) + 5)
    rw [nd_off W ne lf he r (by omega) (2 * k) (by omega) (by omega), nd_off W ne lf he r (by omega) (2 * k + 1) (by omega) (by omega)]
theorem zbs_k : ∀ e, e < 64 → ∀ n, n < 6 → zbt (nI e) n = decide (e / 2 ^ n % 2 = 1) ∧ ((64 + nI e) >>> (nI n &&& 31)) ^^^ 1 = nI (2 ^ (6 - n) + (if e / 2 ^ n % 2 = 0 then e / 2 ^ n + 1 else e / 2 ^ n - 1)) ∧ e / 2 ^ n < 2 ^ (6 - n) ∧ 2 ^ (6 - n) ≤ 64 ∧ (if e / 2 ^ n % 2 = 0 then e / 2 ^ n + 1 else e / 2 ^ n - 1) < 2 ^ (6 - n) := by decide +kernel
theorem zSM.bs {N : Nat} {V W : Nat → Nat → Int32} {nk ns ne : Nat} (h : zSM N V W nk ns ne) {e n : Nat} (he : e < 64) (hn : n < 6) : zbs (V 9) (nI e) (nI n) = znode W ne (-1) 0 n (if e / 2 ^ n % 2 = 0 then e / 2 ^ n + 1 else e / 2 ^ n - 1) := by
  obtain ⟨-, k2, k3, k4, k5⟩ := zbs_k e he n hn
  unfold zbs
  rw [k2, zrd_N (by omega) (by decide)]
  exact (h.nd (by omega) k5).symm
theorem zSM.ct {N : Nat} {V W : Nat → Nat → Int32} {nk ns ne : Nat} (h : zSM N V W nk ns ne) {e : Nat} (he : e < 64) (lf : Int32) : ∀ r, r ≤ 6 → zctr (V 9) (nI e) lf r = znode W ne (nI e) lf r (e / 2 ^ r)
  | 0, _ => by
    rw [Nat.pow_zero, Nat.div_one]
    exact (if_pos rfl).symm
  | r + 1, hr => by
    have ih := zSM.ct h he lf r (by omega)
    obtain ⟨k1, -, k3, k4, k5⟩ := zbs_k e he r (by omega)
    have d := ndiv2 e (by omega) r (by omega)
    have hb := h.bs he (n := r) (by omega)
    show (if zbt (nI e) r = true then zjo (zbs (V 9) (nI e) (nI r)) (zctr (V 9) (nI e) lf r) else zjo (zctr (V 9) (nI e) lf r) (zbs (V 9) (nI e) (nI r))) = zjo (znode W ne (nI e) lf r (2 * (e / 2 ^ (r + 1)))) (znode W ne (nI e) lf r (2 * (e / 2 ^ (r + 1)) + 1))
    rw [k1, ih, hb, ← d]
    by_cases c : e / 2 ^ r % 2 = 1
    · have c0 : ¬ e / 2 ^ r % 2 = 0 := by omega
      rw [if_neg c0] at k5
      rw [decide_eq_true c, if_pos rfl, if_neg c0, show 2 * (e / 2 ^ r / 2) + 1 = e / 2 ^ r by omega, show 2 * (e / 2 ^ r / 2) = e / 2 ^ r - 1 by omega, nd_off W ne lf he r (by omega) (e / 2 ^ r - 1) k5 (by omega)]
    · have c0 : e / 2 ^ r % 2 = 0 := by omega
      rw [if_pos c0] at k5
      rw [decide_eq_false c, if_neg (by decide), if_pos c0, show 2 * (e / 2 ^ r / 2) = e / 2 ^ r by omega, nd_off W ne lf he r (by omega) (e / 2 ^ r + 1) k5 (by omega)]

theorem nd_same (W : Nat → Nat → Int32) {ne : Nat} (hn : ne ≤ 64) {e : Nat} (he : e < ne) : ∀ r k, k < 2 ^ 20 → 2 ^ r * (k + 1) ≤ 2 ^ 20 → znode W ne (nI e) (W (500 + e) 3) r k = znode W ne (-1) 0 r k
  | 0, k, hk, _ => by
    show (if nI k = nI e then W (500 + e) 3 else if k < ne then W (500 + k) 3 else 0) = (if nI k = -1 then (0 : Int32) else if k < ne then W (500 + k) 3 else 0)
    rw [if_neg (zSM.n1 k (by omega))]
    by_cases c : k = e
    · subst c; rw [if_pos rfl, if_pos he]
    · rw [if_neg (fun q => c ((nI_eq (by omega) (by omega)).mp q))]
  | r + 1, k, hk, h2 => by
    have hp : 0 < 2 ^ r := Nat.pow_pos (by decide)
    have e1 : 2 ^ r * (2 * k + 1 + 1) ≤ 2 ^ 20 := by
      have : 2 ^ r * (2 * k + 1 + 1) = 2 ^ (r + 1) * (k + 1) := by rw [Nat.pow_succ, Nat.mul_assoc, show 2 * k + 1 + 1 = 2 * (k + 1) by omega]
      omega
    have e2 : 2 ^ r * (2 * k + 1) ≤ 2 ^ r * (2 * k + 1 + 1) := Nat.mul_le_mul_left _ (by omega)
    have e3 : 2 * k + 1 + 1 ≤ 2 ^ r * (2 * k + 1 + 1) := Nat.le_mul_of_pos_left _ hp
    show zr9 (31 * znode W ne (nI e) (W (500 + e) 3) r (2 * k) + 17 * znode W ne (nI e) (W (500 + e) 3) r (2 * k + 1) + 5) = zr9 (31 * znode W ne (-1) 0 r (2 * k) + 17 * znode W ne (-1) 0 r (2 * k + 1) + 5)
    rw [nd_same W hn he r (2 * k) (by omega) (by omega), nd_same W hn he r (2 * k + 1) (by omega) e1]
theorem neg1_le {E : Nat} (h : E < 2 ^ 31) : (-1 : Int32) ≤ nI E := by
  rw [Int32.le_iff_toInt_le, nI_toInt h, show (-1 : Int32).toInt = -1 from rfl]
  omega
/-- the register is whole -/
theorem zSM.wh {N : Nat} {V W : Nat → Nat → Int32} {nk ns ne : Nat} (h : zSM N V W nk ns ne) : zall (zwhf (V 6) (V 7) (V 8) (V 9)) ne = true := by
  have e2 : ne ≤ 64 := h.2.2.2.1.2.1.1
  refine (zall_iff ne).mpr fun e he => ?_
  unfold zwhf zcomes
  rw [decide_eq_true_eq, (h.2.2.2.1.2.2 e he).2.2.2, h.ct (e := e) (by omega) _ 6 (Nat.le_refl 6), show e / 2 ^ 6 = 0 from Nat.div_eq_of_lt (by omega), nd_same W e2 he 6 0 (by decide) (by decide), h.nd (r := 6) (by decide) (k := 0) (by decide), show (1 : Int32) = nI 1 from rfl, zrd_N (by decide) (by decide)]
theorem zSM.sd {N : Nat} {V W : Nat → Nat → Int32} {nk ns ne : Nat} (h : zSM N V W nk ns ne) (hN : N < 2 ^ 20) : ∀ si, si < ns → sdOk V si := fun si hsi k hk hne => by
  obtain ⟨-, -, E, hE, s3, s4⟩ := h.2.2.1 si hsi
  obtain ⟨-, -, t3⟩ := s4 k hk
  rcases t3 with ⟨-, u2⟩ | ⟨-, s, e, hs, he, u1, u2⟩
  · exact absurd u2 hne
  · exact ⟨s, hs, u1, by rw [u2, s3]; exact nI_le he (by omega)⟩
theorem zSM.rd {N : Nat} {V W : Nat → Nat → Int32} {nk ns ne : Nat} (h : zSM N V W nk ns ne) (hN : N < 2 ^ 20) : rdOk W nk ns := by
  refine ⟨fun si hsi k hk => ?_, fun k hk => ?_⟩
  · obtain ⟨s1, -, E, hE, s3, s4⟩ := h.2.2.1 si hsi
    obtain ⟨t1, t2, t3⟩ := s4 k hk
    rw [← t1, ← t2, ← s1 3 (by decide)]
    rcases t3 with ⟨u1, u2⟩ | ⟨-, s, e, hs, he, u1, u2⟩
    · rw [u1, u2, s3]
      exact ⟨neg1_le (by omega), Or.inl rfl⟩
    · rw [u1, u2, s3]
      exact ⟨nI_le he (by omega), Or.inr ⟨s, hs, rfl⟩⟩
  · obtain ⟨⟨-, -, -, k4, -⟩, -, l, hl, el⟩ := h.2.1 k hk
    exact ⟨l, hl, k4.symm.trans el⟩
theorem zSM.lie {N : Nat} {V W : Nat → Nat → Int32} {nk ns ne : Nat} (h : zSM N V W nk ns ne) : ∀ k, k < nk → ∃ l, l < 97 ∧ V (100 + k) 4 = nI l := fun k hk => (h.2.1 k hk).2.2
theorem zSM.snd {N : Nat} {V W : Nat → Nat → Int32} {nk ns ne : Nat} (h : zSM N V W nk ns ne) (hN : N < 2 ^ 20) {si : Nat} (hsi : si < ns) : sSnd V si = rSnd W si := by
  obtain ⟨s1, -, E, hE, s3, s4⟩ := h.2.2.1 si hsi
  unfold sSnd rSnd ocV ocW
  rw [s1 5 (by decide), s1 0 (by decide), roK_congr h.iv (g := zgp (zgd (W (300 + si)) (W (400 + si)) (W (200 + si) 3))) (gw := gvs (W (300 + si))) (fun k hk => by
    match k, hk with
    | 0, _ => rfl
    | k + 1, hk => exact h.cur hN hsi (by omega)) (fun k hk _ => by
    match k, hk with
    | 0, _ => rfl
    | k + 1, hk => exact (s4 k (by omega)).1)]
theorem zSM.allsnd {N : Nat} {V W : Nat → Nat → Int32} {nk ns ne : Nat} (h : zSM N V W nk ns ne) (hN : N < 2 ^ 20) : zall (sSnd V) ns = zall (rSnd W) ns := by
  rw [Bool.eq_iff_iff, zall_iff, zall_iff]
  exact ⟨fun q k hk => by rw [← h.snd hN hk]; exact q k hk, fun q k hk => by rw [h.snd hN hk]; exact q k hk⟩


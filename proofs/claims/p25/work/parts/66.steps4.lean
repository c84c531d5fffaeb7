
/-! counted by rows and by columns -/
def zrow (f : Nat → Nat → Bool) (n : Nat) : Nat → Nat
  | 0 => 0
  | s + 1 => zrow f n s + zcnt (f s) n
def zcol (f : Nat → Nat → Bool) (m : Nat) : Nat → Nat
  | 0 => 0
  | i + 1 => zcol f m i + zcnt (fun s => f s i) m
theorem zrow_0 (f : Nat → Nat → Bool) : ∀ m, zrow f 0 m = 0
  | 0 => rfl
  | m + 1 => by show zrow f 0 m + 0 = 0; rw [zrow_0 f m]
theorem zrow_s (f : Nat → Nat → Bool) (n : Nat) : ∀ m, zrow f (n + 1) m = zrow f n m + zcnt (fun s => f s n) m
  | 0 => rfl
  | m + 1 => by
    show zrow f (n + 1) m + (zcnt (f m) n + (if f m n then 1 else 0)) = zrow f n m + zcnt (f m) n + (zcnt (fun s => f s n) m + (if f m n then 1 else 0))
    rw [zrow_s f n m]
    omega
theorem zrow_col (f : Nat → Nat → Bool) (m : Nat) : ∀ n, zrow f n m = zcol f m n
  | 0 => zrow_0 f m
  | n + 1 => by
    rw [zrow_s f n m, zrow_col f m n]
    rfl
theorem zrow_congr {f g : Nat → Nat → Bool} {n : Nat} : ∀ m, (∀ s, s < m → ∀ k, k < n → f s k = g s k) → zrow f n m = zrow g n m
  | 0, _ => rfl
  | m + 1, h => by
    show zrow f n m + zcnt (f m) n = zrow g n m + zcnt (g m) n
    rw [zrow_congr m (fun s hs => h s (by omega)), zcnt_congr n (h m (by omega))]
theorem mgo_row (V : Nat → Nat → Int32) (x : Int32) (nk : Nat) : ∀ n, mgo V x nk n = zrow (mfl V x) nk n
  | 0 => rfl
  | n + 1 => by
    show mgo V x nk n + zcnt (mfl V x n) nk = zrow (mfl V x) nk n + zcnt (mfl V x n) nk
    rw [mgo_row V x nk n]
theorem zcnt_no {f : Nat → Bool} : ∀ n, (∀ k, k < n → f k = false) → zcnt f n = 0
  | 0, _ => rfl
  | n + 1, h => by
    rw [zcnt_skip (h n (by omega))]
    exact zcnt_no n fun k hk => h k (by omega)
theorem zgone_N (V : Nat → Nat → Int32) (ns : Nat) (x : Int32) : ∀ n, zgone V ns x n = nI (zcol (fun s i => zfl_ V x i && decide (V (400 + s) i ≠ -1)) ns n)
  | 0 => rfl
  | n + 1 => by
    have ih := zgone_N V ns x n
    show (if zfl_ V x n = true then zgone V ns x n + nI (zcnt (fun s => decide (V (400 + s) n ≠ -1)) ns) else zgone V ns x n) = nI (zcol (fun s i => zfl_ V x i && decide (V (400 + s) i ≠ -1)) ns n + zcnt (fun s => zfl_ V x n && decide (V (400 + s) n ≠ -1)) ns)
    by_cases h : zfl_ V x n = true
    · rw [if_pos h, ih, nI_add, zcnt_congr (f := fun s => zfl_ V x n && decide (V (400 + s) n ≠ -1)) (g := fun s => decide (V (400 + s) n ≠ -1)) ns (fun s _ => by rw [h, Bool.true_and])]
    · rw [if_neg h, ih, zcnt_no (f := fun s => zfl_ V x n && decide (V (400 + s) n ≠ -1)) ns (fun s _ => by rw [Bool.eq_false_iff.mpr h, Bool.false_and]), Nat.add_zero]
section ZFLO
variable {N : Nat} {V V' W W' : Nat → Nat → Int32} {nk ns ne ne' : Nat}
theorem zSM.n1 (q : Nat) (hq : q < 2 ^ 31) : nI q ≠ -1 := fun e => by
  have := congrArg Int32.toInt e
  rw [nI_toInt hq, show (-1 : Int32).toInt = -1 from rfl] at this
  omega
/-- flood, on both sides -/
theorem zSM.fd (h : zSM N V W nk ns ne) (hnk : nk ≤ 8) (hns : ns ≤ 6) {x : Int32} (hV : zFd V V' ns x nk) (hW : mFd W W' ns x (mDn nk ns 0)) : zSM N V' W' nk ns ne := by
  obtain ⟨a, hk, hs, eT, i1, i2, i3⟩ := h
  refine ⟨by rw [hV.1 0 (by omega) (by omega), hV.1 10 (by omega) (by omega), hW.1 0 (by omega) (by omega)]; exact a, fun k hk2 => ?_, fun q hq => ?_, eT.of (fun r y5 y9 => hV.1 r (by omega) (by omega)) (fun e he => hW.1 (500 + e) (by omega) (by omega)), by rw [hV.1 13 (by omega) (by omega)]; exact i1, by rw [hW.1 7 (by omega) (by omega)]; exact i2, by rw [hV.1 10 (by omega) (by omega)]; exact i3⟩
  · rw [hV.1 (100 + k) (by omega) (by omega), hW.1 (100 + k) (by omega) (by omega)]; exact hk k hk2
  · obtain ⟨s1, s2, E, hE, s3, s4⟩ := hs q hq
    rw [hV.1 (200 + q) (by omega) (by omega), hW.1 (200 + q) (by omega) (by omega)]
    refine ⟨s1, s2, E, hE, s3, fun k h8 => ?_⟩
    obtain ⟨t1, t2, t3⟩ := s4 k h8
    have hv := hV.2 q hq k
    have hw := hW.2 q hq k
    have hD : mDn nk ns 0 q k = decide (k < nk) := by
      unfold mDn
      rw [decide_eq_true hq, Bool.true_or, Bool.and_true]
    rw [hD, decide_eq_true_eq] at hw
    by_cases c : k < nk ∧ zfl_ V x k = true
    · obtain ⟨v1, v2⟩ := hv.1 c
      have cz : W (100 + k) 0 = x := by
        have := c.2
        unfold zfl_ at this
        rw [decide_eq_true_eq] at this
        rw [← (hk k c.1).1.1]; exact this
      by_cases c2 : W (300 + q) k = -1
      · have hno : ¬ (k < nk ∧ mfl W x q k = true) := fun z => by
          have := z.2
          unfold mfl at this
          rw [Bool.and_eq_true, decide_eq_true_eq, decide_eq_true_eq] at this
          exact this.2 c2
        obtain ⟨w1, w2⟩ := hw.2 hno
        have u : W (400 + q) k = -1 := by
          rcases t3 with ⟨-, u2⟩ | ⟨-, s, e, hs9, -, u1, -⟩
          · rw [← t2]; exact u2
          · exact absurd (u1.symm.trans (t1.trans c2)) (zSM.n1 s (by omega))
        rw [v1, v2, w1, w2, c2, u]
        exact ⟨rfl, rfl, Or.inl ⟨rfl, rfl⟩⟩
      · obtain ⟨w1, w2⟩ := hw.1 ⟨c.1, by unfold mfl; rw [decide_eq_true cz, decide_eq_true (p := W (300 + q) k ≠ -1) c2]; rfl⟩
        rw [v1, v2, w1, w2]
        exact ⟨rfl, rfl, Or.inl ⟨rfl, rfl⟩⟩
    · obtain ⟨v1, v2⟩ := hv.2 c
      have hno : ¬ (k < nk ∧ mfl W x q k = true) := fun z => c ⟨z.1, by
        have := z.2
        unfold mfl at this
        rw [Bool.and_eq_true, decide_eq_true_eq] at this
        unfold zfl_
        rw [(hk k z.1).1.1, decide_eq_true_eq]
        exact this.1⟩
      obtain ⟨w1, w2⟩ := hw.2 hno
      rw [v1, v2, w1, w2]
      exact ⟨t1, t2, t3⟩
/-- how many were lost, on both sides -/
theorem zSM.gone (h : zSM N V W nk ns ne) (hN : N < 2 ^ 20) (hnk : nk ≤ 8) {x : Int32} : zgone V ns x nk = nI (mgo W x nk ns) := by
  rw [zgone_N, mgo_row, ← zrow_col]
  refine congrArg nI (zrow_congr ns fun s hs k hk => ?_)
  obtain ⟨s1, s2, E, hE, s3, s4⟩ := h.2.2.1 s hs
  obtain ⟨t1, t2, t3⟩ := s4 k (by omega)
  unfold zfl_ mfl
  rw [(h.2.1 k hk).1.1, ← t1]
  rcases t3 with ⟨u1, u2⟩ | ⟨-, q, e, hq, he, u1, u2⟩
  · rw [u1, u2]
  · rw [u1, u2, decide_eq_true (zSM.n1 q (by omega)), decide_eq_true (zSM.n1 e (by omega))]
theorem zin_1 {x : Int32} {n : Nat} (h : zin x 1 (nI n) = true) (hn : n < 2 ^ 31) : ∃ k, 1 ≤ k ∧ k ≤ n ∧ x = nI k := by
  simp only [zin, Bool.and_eq_true, decide_eq_true_eq] at h
  have e0 : (0 : Int32).toInt = 0 := by decide
  have e1 : (1 : Int32).toInt = 1 := by decide
  obtain ⟨k, hk, rfl⟩ := nI_of (x := x) (fun q => by have := h.1; simp only [Int32.lt_iff_toInt_lt, Int32.le_iff_toInt_le] at *; omega)
  exact ⟨k, (nI_leI (a := 1) (by decide) hk).mp h.1, (nI_leI hk hn).mp h.2, rfl⟩
theorem zin_ok {q n : Nat} (h : q ≤ n) (hn : n < 2 ^ 31) : zin (nI q) 0 (nI n) = true := by
  simp only [zin, Bool.and_eq_true, decide_eq_true_eq]
  exact ⟨nI_pos' (by omega), (nI_leI (by omega) hn).mpr h⟩
/-- a keeper more, on both sides -/
theorem zSM.kp (h : zSM N V W nk ns ne) (hnk : nk < 8) (hns : ns ≤ 6) {x z w m1 m2 : Int32} (hx : zkok x z w = true) : zSM N (rset (rset V (100 + nk) (z6k (nI nk) x z w)) 1 (fun _ => m1)) (rset (rset W (100 + nk) (zw5 x z w 0 0)) 1 (fun _ => m2)) (nk + 1) ns ne := by
  obtain ⟨a, hk, hs, eT, i1, i2, i3⟩ := h
  have v : ∀ (U : Nat → Nat → Int32) (u w : Nat → Int32) r, r ≠ 1 → r ≠ 100 + nk → (rset (rset U (100 + nk) u) 1 w) r = U r := fun U u w r h1 h2 => by rw [rset_n h1, rset_n h2]
  unfold zkok at hx
  rw [Bool.and_eq_true] at hx
  obtain ⟨zz, hz, ez⟩ := zin_l (n := 3) hx.1 (by decide)
  have hx2 := hx.2
  rw [Bool.and_eq_true] at hx2
  obtain ⟨pp, hp1, hp2, ep⟩ := zin_1 (n := 99) hx2.1 (by decide)
  refine ⟨by rw [v _ _ _ 0 (by decide) (by omega), v _ _ _ 10 (by decide) (by omega), v _ _ _ 0 (by decide) (by omega)]; exact a, fun k hk2 => ?_, fun q hq => ?_, eT.of (fun r y5 y9 => v _ _ _ r (by omega) (by omega)) (fun e he => v _ _ _ (500 + e) (by omega) (by omega)), by rw [v _ _ _ 13 (by decide) (by omega)]; exact i1, by rw [v _ _ _ 7 (by decide) (by omega)]; exact i2, by rw [v _ _ _ 10 (by decide) (by omega)]; exact i3⟩
  · by_cases c : k = nk
    · subst c
      rw [rset_n (show 100 + k ≠ 1 by omega), rset_s, rset_n (show 100 + k ≠ 1 by omega), rset_s]
      exact ⟨⟨rfl, rfl, rfl, rfl, rfl⟩, ⟨⟨zz, hz, ez⟩, pp, hp1, hp2, ep⟩, 0, by decide, nI_0.symm⟩
    · rw [v _ _ _ (100 + k) (by omega) (by omega), v _ _ _ (100 + k) (by omega) (by omega)]; exact hk k (by omega)
  · obtain ⟨s1, s2, E, hE, s3, s4⟩ := hs q hq
    rw [v _ _ _ (200 + q) (by omega) (by omega), v _ _ _ (300 + q) (by omega) (by omega), v _ _ _ (400 + q) (by omega) (by omega), v _ _ _ (200 + q) (by omega) (by omega), v _ _ _ (300 + q) (by omega) (by omega), v _ _ _ (400 + q) (by omega) (by omega)]
    refine ⟨s1, s2, E, hE, s3, fun k h8 => ?_⟩
    obtain ⟨t1, t2, t3⟩ := s4 k h8
    refine ⟨t1, t2, t3.imp_right ?_⟩
    rintro ⟨u1, u2⟩
    exact ⟨by omega, u2⟩
/-- a lie, on both sides -/
theorem zSM.li (h : zSM N V W nk ns ne) (hnk : nk ≤ 8) (hns : ns ≤ 6) {i : Nat} (hi : i < nk) {w : Int32} (hw : zin w 0 96 = true) : zSM N (rset V (100 + i) (upd (V (100 + i)) 4 w)) (rset W (100 + i) (zk5 (W (100 + i)) w (W (100 + i) 4))) nk ns ne := by
  obtain ⟨a, hk, hs, eT, i1, i2, i3⟩ := h
  obtain ⟨l, hl, el⟩ := zin_l (n := 96) hw (by decide)
  refine ⟨by rw [rset_n (by omega), rset_n (by omega), rset_n (by omega)]; exact a, fun k hk2 => ?_, fun q hq => ?_, eT.of (fun r y5 y9 => rset_n (by omega)) (fun e he => rset_n (by omega)), by rw [rset_n (by omega)]; exact i1, by rw [rset_n (by omega)]; exact i2, by rw [rset_n (by omega)]; exact i3⟩
  · by_cases c : k = i
    · subst c
      obtain ⟨⟨k1, k2, k3, k4, k5⟩, k6, k7⟩ := hk k hk2
      rw [rset_s, rset_s, pk_un (by decide), pk_un (by decide), pk_un (by decide), pk_us, pk_un (by decide)]
      exact ⟨⟨k1, k2, k3, rfl, k5⟩, k6, l, hl, el⟩
    · rw [rset_n (show 100 + k ≠ 100 + i by omega), rset_n (show 100 + k ≠ 100 + i by omega)]; exact hk k hk2
  · rw [rset_n (show 200 + q ≠ 100 + i by omega), rset_n (show 300 + q ≠ 100 + i by omega), rset_n (show 400 + q ≠ 100 + i by omega), rset_n (show 200 + q ≠ 100 + i by omega), rset_n (show 300 + q ≠ 100 + i by omega), rset_n (show 400 + q ≠ 100 + i by omega)]; exact hs q hq
/-- frozen, on both sides -/
theorem zSM.fz (h : zSM N V W nk ns ne) (hnk : nk ≤ 8) (hns : ns ≤ 6) {i : Nat} (hi : i < ns) {f : Int32} (hf : ∃ n, n < 4 ∧ f = nI n) : zSM N (rset V (200 + i) (z6 (V (200 + i)) (V (200 + i) 3) f (V (200 + i) 5))) (rset W (200 + i) (zs6 (W (200 + i)) (W (200 + i) 3) f (W (200 + i) 5))) nk ns ne := by
  obtain ⟨a, hk, hs, eT, i1, i2, i3⟩ := h
  refine ⟨by rw [rset_n (by omega), rset_n (by omega), rset_n (by omega)]; exact a, fun k hk2 => ?_, fun q hq => ?_, eT.of (fun r y5 y9 => rset_n (by omega)) (fun e he => rset_n (by omega)), by rw [rset_n (by omega)]; exact i1, by rw [rset_n (by omega)]; exact i2, by rw [rset_n (by omega)]; exact i3⟩
  · rw [rset_n (show 100 + k ≠ 200 + i by omega), rset_n (show 100 + k ≠ 200 + i by omega)]; exact hk k hk2
  · obtain ⟨s1, s2, E, hE, s3, s4⟩ := hs q hq
    rw [rset_n (show 300 + q ≠ 200 + i by omega), rset_n (show 400 + q ≠ 200 + i by omega), rset_n (show 300 + q ≠ 200 + i by omega), rset_n (show 400 + q ≠ 200 + i by omega)]
    by_cases c : q = i
    · subst c
      rw [rset_s, rset_s]
      refine ⟨fun j hj => ?_, hf, E, hE, s3, s4⟩
      have : j = 0 ∨ j = 1 ∨ j = 2 ∨ j = 3 ∨ j = 4 ∨ j = 5 := by omega
      rcases this with rfl | rfl | rfl | rfl | rfl | rfl
      · exact s1 0 (by decide)
      · exact s1 1 (by decide)
      · exact s1 2 (by decide)
      · exact s1 3 (by decide)
      · rfl
      · exact s1 5 (by decide)
    · rw [rset_n (show 200 + q ≠ 200 + i by omega), rset_n (show 200 + q ≠ 200 + i by omega)]
      exact ⟨s1, s2, E, hE, s3, s4⟩
/-- a secret more, on both sides -/
theorem zSM.dl (h : zSM N V W nk ns ne) (hnk : nk ≤ 8) (hns : ns < 6) {x z dt : Int32} {t g a9 : Nat} (ht1 : 1 ≤ t) (ht4 : t ≤ 4) (ha : a9 < 97) (ex : x = nI a9) (hg : g < 2 ^ nk) (hV : zDl V V' ns x (nI t) z dt (nI g)) (hW : mDl W W' ns ne ne' t x z dt (nI g)) : zSM N V' W' nk (ns + 1) ne' := by
  obtain ⟨u1, u2, mc, v1, v2⟩ := hV
  obtain ⟨W2, fc, q1, q2, md, w1, w2, w3, w4⟩ := hW
  have hp2 : 2 ^ nk ≤ 256 := Nat.pow_le_pow_right (n := 2) (by decide) hnk
  have h2 := h.dw (fi := x) ht4 w1
  obtain ⟨l, hll, el⟩ := h.2.2.2.2.2.2
  have v11 : ∀ j, j < 4 → zDw V x (nI t) 11 j = zcvn x (nI t) (W 0 1) j := fun j hj => by rw [zDw_11 hj, h.1.2.2.2.2]
  have hcs : ∀ j, j < t → ∃ c, c < 97 ∧ fc j = nI c := fun j hj => by
    rw [w2 j hj, ← h.1.2.2.2.2, el, ex]
    exact zcvn_lt hll ha j
  have hsh : ∀ j, j < 8 → u1 j = q1 j ∧ u2 j = q2 j ∧ ((u1 j = -1 ∧ u2 j = -1) ∨ (j < nk ∧ ∃ s e, s < 97 ∧ e ≤ 0 ∧ u1 j = nI s ∧ u2 j = nI e)) := fun j hj => by
    by_cases b : zbt (nI g) j = true
    · obtain ⟨a1, a2⟩ := (v1 j hj).1 ⟨hj, b⟩
      obtain ⟨b1, b2⟩ := (w3 j hj).1 ⟨hj, b⟩
      have hjn : j < nk := by
        rw [tb_zbt _ (by omega) j (by omega)] at b
        refine Nat.lt_of_not_le fun hle => ?_
        rw [Nat.testBit_lt_two_pow (Nat.lt_of_lt_of_le hg (Nat.pow_le_pow_right (by decide) hle))] at b
        cases b
      obtain ⟨c, hc9, ec⟩ := zcN_lt (x := j + 1) (by omega) hcs t (Nat.le_refl t)
      have e5 : zcat (zDw V x (nI t) 11) (nI j + 1) 4 = zcN fc (nI j + 1) t t := zcat_N ht1 ht4 v11 w2
      refine ⟨a1.trans (e5.trans b1.symm), a2.trans b2.symm, Or.inr ⟨hjn, c, 0, hc9, Nat.le_refl _, ?_, a2.trans nI_0.symm⟩⟩
      rw [a1]
      show zcat (zDw V x (nI t) 11) (nI j + 1) 4 = nI c
      rw [e5, nI_1]; exact ec
    · obtain ⟨a1, a2⟩ := (v1 j hj).2 (fun y => b y.2)
      obtain ⟨b1, b2⟩ := (w3 j hj).2 (fun y => b y.2)
      exact ⟨a1.trans b1.symm, a2.trans b2.symm, Or.inl ⟨a1, a2⟩⟩
  have r4 : ∀ (U : Nat → Nat → Int32) (a b c e : Nat → Int32) r, r ≠ 3 → r ≠ 200 + ns → r ≠ 300 + ns → r ≠ 400 + ns → (rset (rset (rset (rset U (200 + ns) a) (300 + ns) b) (400 + ns) c) 3 e) r = U r := fun U a b c e r y1 y2 y3 y4 => by rw [rset_n y1, rset_n y4, rset_n y3, rset_n y2]
  have r2 : ∀ (U : Nat → Nat → Int32) (a b c e : Nat → Int32), (rset (rset (rset (rset U (200 + ns) a) (300 + ns) b) (400 + ns) c) 3 e) (200 + ns) = a := fun U a b c e => by rw [rset_n (by omega), rset_n (by omega), rset_n (by omega), rset_s]
  have r3 : ∀ (U : Nat → Nat → Int32) (a b c e : Nat → Int32), (rset (rset (rset (rset U (200 + ns) a) (300 + ns) b) (400 + ns) c) 3 e) (300 + ns) = b := fun U a b c e => by rw [rset_n (by omega), rset_n (by omega), rset_s]
  have r5 : ∀ (U : Nat → Nat → Int32) (a b c e : Nat → Int32), (rset (rset (rset (rset U (200 + ns) a) (300 + ns) b) (400 + ns) c) 3 e) (400 + ns) = c := fun U a b c e => by rw [rset_n (by omega), rset_s]
  have h3 : zSM N (rset (rset (rset (rset (zDw V x (nI t)) (200 + ns) (zwn (nI t) z dt)) (300 + ns) u1) (400 + ns) u2) 3 (fun _ => mc)) (rset (rset (rset (rset W2 (200 + ns) (zs6n (nI t) z dt 0 0 0)) (300 + ns) q1) (400 + ns) q2) 3 (fun _ => md)) nk (ns + 1) ne := by
    obtain ⟨a, hk, hs, eT, i1, i2, i3⟩ := h2
    refine ⟨by rw [r4 _ _ _ _ _ 0 (by decide) (by omega) (by omega) (by omega), r4 _ _ _ _ _ 10 (by decide) (by omega) (by omega) (by omega), r4 _ _ _ _ _ 0 (by decide) (by omega) (by omega) (by omega)]; exact a, fun k hk2 => ?_, fun q hq => ?_, eT.of (fun r y5 y9 => r4 _ _ _ _ _ r (by omega) (by omega) (by omega) (by omega)) (fun e he => r4 _ _ _ _ _ (500 + e) (by omega) (by omega) (by omega) (by omega)), by rw [r4 _ _ _ _ _ 13 (by decide) (by omega) (by omega) (by omega)]; exact i1, by rw [r4 _ _ _ _ _ 7 (by decide) (by omega) (by omega) (by omega)]; exact i2, by rw [r4 _ _ _ _ _ 10 (by decide) (by omega) (by omega) (by omega)]; exact i3⟩
    · rw [r4 _ _ _ _ _ (100 + k) (by omega) (by omega) (by omega) (by omega), r4 _ _ _ _ _ (100 + k) (by omega) (by omega) (by omega) (by omega)]; exact hk k hk2
    · by_cases c : q = ns
      · subst c
        rw [r2, r2, r3, r3, r5, r5]
        refine ⟨fun j hj => ?_, ⟨0, by decide, nI_0.symm⟩, 0, Nat.zero_le _, nI_0.symm, fun k h8 => hsh k h8⟩
        have : j = 0 ∨ j = 1 ∨ j = 2 ∨ j = 3 ∨ j = 4 ∨ j = 5 := by omega
        rcases this with rfl | rfl | rfl | rfl | rfl | rfl <;> rfl
      · rw [r4 _ _ _ _ _ (200 + q) (by omega) (by omega) (by omega) (by omega), r4 _ _ _ _ _ (300 + q) (by omega) (by omega) (by omega) (by omega), r4 _ _ _ _ _ (400 + q) (by omega) (by omega) (by omega) (by omega), r4 _ _ _ _ _ (200 + q) (by omega) (by omega) (by omega) (by omega), r4 _ _ _ _ _ (300 + q) (by omega) (by omega) (by omega) (by omega), r4 _ _ _ _ _ (400 + q) (by omega) (by omega) (by omega) (by omega)]
        exact hs q (by omega)
  exact h3.en (by omega) hnk (dy := V 0 0) (by rw [r4 _ _ _ _ _ 0 (by decide) (by omega) (by omega) (by omega), w1.1.2.2.1]; exact h.1.1) v2 w4
end ZFLO



section ZSTEP
variable {N : Nat} {V V' W W' : Nat → Nat → Int32} {nk ns ne ne' : Nat}
/-- only the first rows have changed -/
theorem zSM.row0 (h : zSM N V W nk ns ne) (hV : ∀ r, r ≠ 0 → r ≠ 10 → r ≠ 11 → V' r = V r) (hW : ∀ r, r ≠ 0 → W' r = W r) (h5 : V' 0 0 = W' 0 2 ∧ V' 0 1 = W' 0 3 ∧ V' 0 2 = W' 0 4 ∧ V' 0 3 = W' 0 5 ∧ V' 10 0 = W' 0 1) (hl : ∃ l, l < 256 ∧ V' 10 0 = nI l) : zSM N V' W' nk ns ne := by
  obtain ⟨-, hk, hs, eT, i1, i2, -⟩ := h
  refine ⟨h5, fun k hk2 => ?_, fun i hi => ?_, eT.of (fun r y5 y9 => hV r (by omega) (by omega) (by omega)) (fun e he => hW (500 + e) (by omega)), by rw [hV 13 (by decide) (by decide) (by decide)]; exact i1, by rw [hW 7 (by decide)]; exact i2, hl⟩
  · rw [hV (100 + k) (by omega) (by omega) (by omega), hW (100 + k) (by omega)]; exact hk k hk2
  · rw [hV (200 + i) (by omega) (by omega) (by omega), hV (300 + i) (by omega) (by omega) (by omega), hV (400 + i) (by omega) (by omega) (by omega), hW (200 + i) (by omega), hW (300 + i) (by omega), hW (400 + i) (by omega)]; exact hs i hi
theorem zSM.cnt (h : zSM N V W nk ns ne) (a b c e t : Int32) : zSM N (rset V 0 (z4 a b c e)) (rset W 0 (zm6 t (W 0 1) a b c e)) nk ns ne :=
  h.row0 (fun _ h0 _ _ => rset_n h0) (fun _ h0 => rset_n h0) ⟨rfl, rfl, rfl, rfl, (congrFun (rset_n (show (10 : Nat) ≠ 0 by decide)) 0).trans (h.1.2.2.2.2)⟩ (by
    obtain ⟨l, hl, e⟩ := h.2.2.2.2.2.2
    exact ⟨l, hl, (congrFun (rset_n (show (10 : Nat) ≠ 0 by decide)) 0).trans e⟩)
theorem zlf_N {ks ss ds : Nat → Int32} {e : Nat} (he : e < 64) : zlf ks ss ds (nI e) = zr9 (ks e * 1009 + 31 * ss e + 7 * ds e + nI e) := by
  unfold zlf
  rw [if_neg (fun q => q.elim (fun z => nI_pos (by omega) z) (fun z => absurd ((nI_leI (by decide) (by omega)).mp z) (by omega))), nI_clamp (by omega)]
/-- the way up from a leaf -/
def nen (tr : Nat → Int32) (m : Nat) : Nat → Nat → Int32
  | 0 => tr
  | n + 1 => upd (nen tr m n) (m / 2 ^ (n + 1)) (zjo (nen tr m n (2 * (m / 2 ^ (n + 1)))) (nen tr m n (2 * (m / 2 ^ (n + 1)) + 1)))
theorem nen_off (tr : Nat → Int32) (m : Nat) : ∀ n q, (∀ j, 1 ≤ j → j ≤ n → q ≠ m / 2 ^ j) → nen tr m n q = tr q
  | 0, _, _ => rfl
  | n + 1, q, h => by
    show upd _ _ _ q = _
    rw [pk_un (h (n + 1) (by omega) (Nat.le_refl _))]
    exact nen_off tr m n q (fun j h1 h2 => h j h1 (by omega))
theorem ndiv (m : Nat) (_ : m < 128) (n : Nat) (hn : n < 6) (j : Nat) (_ : j < 7) (hm : 64 ≤ m) (hjn : j ≤ n) : 1 ≤ m / 2 ^ (n + 1) ∧ 2 * (m / 2 ^ (n + 1)) ≤ m / 2 ^ j := by
  have key : ∀ n, n < 6 → 2 ^ (n + 1) ≤ 64 := by decide
  have e : m / 2 ^ (n + 1) = m / 2 ^ n / 2 := by rw [Nat.pow_succ, Nat.div_div_eq_div_mul]
  have p1 : 1 ≤ m / 2 ^ (n + 1) := Nat.div_pos (Nat.le_trans (key n hn) hm) (Nat.pow_pos (by decide))
  have p2 : m / 2 ^ n ≤ m / 2 ^ j := Nat.div_le_div_left (Nat.pow_le_pow_right (by decide) hjn) (Nat.pow_pos (by decide))
  exact ⟨p1, by omega⟩
theorem ndiv2 : ∀ m, m < 128 → ∀ j, j < 6 → m / 2 ^ j / 2 = m / 2 ^ (j + 1) := by decide +kernel
theorem ndiv3 : ∀ m, m < 128 → ∀ j, j < 7 → 1 ≤ j → m / 2 ^ j < 64 := by decide +kernel
theorem nen_on (tr : Nat → Int32) {m : Nat} (hm : 64 ≤ m) (hm2 : m < 128) : ∀ n, n ≤ 6 → ∀ j, 1 ≤ j → j ≤ n → nen tr m n (m / 2 ^ j) = zjo (nen tr m n (2 * (m / 2 ^ j))) (nen tr m n (2 * (m / 2 ^ j) + 1))
  | 0, _, j, h1, h2 => absurd h1 (by omega)
  | n + 1, h, j, h1, h2 => by
    have ih := nen_on tr hm hm2 n (by omega)
    show upd _ _ _ _ = zjo (upd _ _ _ _) (upd _ _ _ _)
    by_cases e : j = n + 1
    · subst e
      have hp := (ndiv m hm2 n (by omega) n (by omega) hm (Nat.le_refl n)).1
      rw [pk_us, pk_un (by omega), pk_un (by omega)]
    · have hp := ndiv m hm2 n (by omega) j (by omega) hm (by omega)
      rw [pk_un (by omega), pk_un (by omega), pk_un (by omega)]
      exact ih j h1 (by omega)
theorem znd_N {m : Nat} (hm : m < 128) : ∀ n, n ≤ 6 → znd (nI m) n = nI (m / 2 ^ n)
  | 0, _ => by rw [Nat.pow_zero, Nat.div_one]; rfl
  | n + 1, h => by
    have ih := znd_N hm n (by omega)
    have hle : m / 2 ^ n ≤ m := Nat.div_le_self _ _
    show znd (nI m) n >>> ((1 : Int32) &&& 31) = _
    rw [ih, pk_shrN (n := m / 2 ^ n) (by omega) ((1 : Int32) &&& 31) 1 (by decide)]
    exact congrArg nI (ndiv2 m hm n (by omega))
theorem zen_N (tr : Nat → Int32) {m : Nat} (hm : 64 ≤ m) (hm2 : m < 128) : ∀ n, n ≤ 6 → zen tr (nI m) n = nen tr m n
  | 0, _ => rfl
  | n + 1, h => by
    have ih := zen_N tr hm hm2 n (by omega)
    have hp := ndiv m hm2 n (by omega) n (by omega) hm (Nat.le_refl n)
    have h3 := ndiv3 m hm2 (n + 1) (by omega) (by omega)
    have e2 : ∀ p : Nat, 2 * nI p = nI (2 * p) := fun p => by rw [show (2 : Int32) = nI 2 from rfl, pk_mul]
    show zjn (zen tr (nI m) n) (znd (nI m) (n + 1)) = _
    rw [ih, znd_N hm2 (n + 1) h]
    unfold zjn
    rw [e2, nI_1, zrd_N (by omega) (by decide), zrd_N (by omega) (by decide), zwr_N (by omega) (by decide)]
    rfl
theorem zlf_up {ks ss ds : Nat → Int32} {c k : Nat} {a b e : Int32} (hk : k < 64) (hn : k ≠ c) : zlf (upd ks c a) (upd ss c b) (upd ds c e) (nI k) = zlf ks ss ds (nI k) := by
  rw [zlf_N hk, zlf_N hk, pk_un hn, pk_un hn, pk_un hn]
theorem zTr.en {tr ks ss ds : Nat → Int32} {c : Nat} (h : zTr tr ks ss ds c) (hc : c < 64) (a b e : Int32) : zTr (zen (zwr 128 tr (64 + nI c) (zlf (upd ks c a) (upd ss c b) (upd ds c e) (nI c))) (64 + nI c) 6) (upd ks c a) (upd ss c b) (upd ds c e) (c + 1) := by
  obtain ⟨h1, h2⟩ := h
  rw [show (64 : Int32) = nI 64 from rfl, nI_add, zen_N _ (m := 64 + c) (by omega) (by omega) 6 (Nat.le_refl 6), zwr_N (by omega) (by decide)]
  constructor
  · intro q hq hq2
    by_cases on : ∃ j, 1 ≤ j ∧ j ≤ 6 ∧ q = (64 + c) / 2 ^ j
    · obtain ⟨j, j1, j2, rfl⟩ := on
      exact nen_on _ (by omega) (by omega) 6 (Nat.le_refl 6) j j1 j2
    · have off : ∀ j, 1 ≤ j → j ≤ 6 → q ≠ (64 + c) / 2 ^ j := fun j j1 j2 e => on ⟨j, j1, j2, e⟩
      have o1 := off 1 (by decide) (by decide)
      have d1 : (64 + c) / 2 ^ 1 = (64 + c) / 2 := by rw [Nat.pow_one]
      have off2 : ∀ j, 1 ≤ j → j ≤ 6 → 2 * q ≠ (64 + c) / 2 ^ j ∧ 2 * q + 1 ≠ (64 + c) / 2 ^ j := fun j j1 j2 => by
        by_cases e6 : j = 6
        · subst e6
          have : (64 + c) / 2 ^ 6 = 1 := by rw [show (2 : Nat) ^ 6 = 64 from rfl]; omega
          omega
        · have := off (j + 1) (by omega) (by omega)
          have d2 := ndiv2 (64 + c) (by omega) j (by omega)
          omega
      rw [nen_off _ _ 6 q off, nen_off _ _ 6 (2 * q) (fun j j1 j2 => (off2 j j1 j2).1), nen_off _ _ 6 (2 * q + 1) (fun j j1 j2 => (off2 j j1 j2).2), pk_un (by omega), pk_un (by omega), pk_un (by omega)]
      exact h1 q hq hq2
  · intro k hk
    rw [nen_off _ _ 6 (64 + k) (fun j j1 j2 e => by have := ndiv3 (64 + c) (by omega) j (by omega) j1; omega)]
    by_cases ek : k = c
    · subst ek
      rw [pk_us, if_pos (Nat.lt_succ_self k)]
    · rw [pk_un (by omega), h2 k hk, zlf_up hk ek]
      by_cases kc : k < c
      · rw [if_pos kc, if_pos (by omega)]
      · rw [if_neg kc, if_neg (by omega)]
theorem zrt_h : ∀ n, n ≤ 63 → (∀ q, 64 - n ≤ q → q < 64 → zrt n q = zjo (zrt n (2 * q)) (zrt n (2 * q + 1))) ∧ ∀ k, zrt n (64 + k) = 0
  | 0, _ => ⟨fun q h1 h2 => by omega, fun _ => rfl⟩
  | n + 1, h => by
    obtain ⟨h1, h2⟩ := zrt_h n (by omega)
    have e2 : ∀ p : Nat, 2 * nI p = nI (2 * p) := fun p => by rw [show (2 : Int32) = nI 2 from rfl, pk_mul]
    have e : zrt (n + 1) = upd (zrt n) (63 - n) (zjo (zrt n (2 * (63 - n))) (zrt n (2 * (63 - n) + 1))) := by
      show zjn (zrt n) (nI (63 - n)) = _
      unfold zjn
      rw [e2, nI_1, zrd_N (by omega) (by decide), zrd_N (by omega) (by decide), zwr_N (by omega) (by decide)]
    rw [e]
    refine ⟨fun q q1 q2 => ?_, fun k => (pk_un (by omega)).trans (h2 k)⟩
    by_cases c : q = 63 - n
    · subst c
      rw [pk_us, pk_un (by omega), pk_un (by omega)]
    · rw [pk_un c, pk_un (by omega), pk_un (by omega)]
      exact h1 q (by omega) q2
theorem zTr.z : zTr (zrt 63) (fun _ => 0) (fun _ => 0) (fun _ => 0) 0 :=
  ⟨fun n h1 h2 => (zrt_h 63 (Nat.le_refl _)).1 n (by omega) h2, fun k _ => ((zrt_h 63 (Nat.le_refl _)).2 k).trans (if_neg (Nat.not_lt_zero k)).symm⟩
/-- an entry, on both sides -/
theorem zSM.en (h : zSM N V W nk ns ne) (hns : ns ≤ 6) (hnk : nk ≤ 8) {kind subj dy : Int32} (hd : dy = W 0 2) (hV : zEn V V' kind subj dy) (hW : mEn W W' ne ne' kind subj) : zSM N V' W' nk ns ne' := by
  obtain ⟨e1, ⟨e2, eT⟩, e3⟩ := h.2.2.2.1
  rcases hV with ⟨c64, rfl⟩ | ⟨c, hc, ec, rfl⟩
  · have : ne = 64 := (nI_eq (by omega) (by decide)).mp (e1.symm.trans c64)
    rcases hW with ⟨-, rfl, rfl⟩ | ⟨q, -, -⟩
    · subst this; exact h
    · omega
  · have ecn : c = ne := (nI_eq (by omega) (by omega)).mp (ec.symm.trans e1)
    subst ecn
    rcases hW with ⟨q, -, -⟩ | ⟨-, rfl, rfl⟩
    · omega
    · obtain ⟨a, hk, hs, -, i1, i2, i3⟩ := h
      have vn : ∀ v5 v6 v7 v8 v9 : Nat → Int32, ∀ r, r ≠ 5 → r ≠ 6 → r ≠ 7 → r ≠ 8 → r ≠ 9 → (rset (rset (rset (rset (rset V 6 v6) 7 v7) 8 v8) 9 v9) 5 v5) r = V r := fun v5 v6 v7 v8 v9 r h5 h6 h7 h8 h9 => by rw [rset_n h5, rset_n h9, rset_n h8, rset_n h7, rset_n h6]
      have wn : ∀ w5 w6 : Nat → Int32, ∀ r, r ≠ 5 → r ≠ 500 + c → (rset (rset W (500 + c) w6) 5 w5) r = W r := fun w5 w6 r h5 h6 => by rw [rset_n h5, rset_n h6]
      have r6 : ∀ v5 v6 v7 v8 v9 : Nat → Int32, (rset (rset (rset (rset (rset V 6 v6) 7 v7) 8 v8) 9 v9) 5 v5) 6 = v6 := fun _ _ _ _ _ => by rw [rset_n (by decide), rset_n (by decide), rset_n (by decide), rset_n (by decide), rset_s]
      have r7 : ∀ v5 v6 v7 v8 v9 : Nat → Int32, (rset (rset (rset (rset (rset V 6 v6) 7 v7) 8 v8) 9 v9) 5 v5) 7 = v7 := fun _ _ _ _ _ => by rw [rset_n (by decide), rset_n (by decide), rset_n (by decide), rset_s]
      have r8 : ∀ v5 v6 v7 v8 v9 : Nat → Int32, (rset (rset (rset (rset (rset V 6 v6) 7 v7) 8 v8) 9 v9) 5 v5) 8 = v8 := fun _ _ _ _ _ => by rw [rset_n (by decide), rset_n (by decide), rset_s]
      have r9 : ∀ v5 v6 v7 v8 v9 : Nat → Int32, (rset (rset (rset (rset (rset V 6 v6) 7 v7) 8 v8) 9 v9) 5 v5) 9 = v9 := fun _ _ _ _ _ => by rw [rset_n (by decide), rset_s]
      refine ⟨?_, fun k hk2 => ?_, fun i hi => ?_, ⟨by rw [rset_s], ⟨by omega, ?_⟩, fun e he => ?_⟩, ?_, ?_, ?_⟩
      · rw [vn _ _ _ _ _ 0 (by decide) (by decide) (by decide) (by decide) (by decide), vn _ _ _ _ _ 10 (by decide) (by decide) (by decide) (by decide) (by decide), wn _ _ 0 (by decide) (by omega)]; exact a
      · rw [vn _ _ _ _ _ (100 + k) (by omega) (by omega) (by omega) (by omega) (by omega), wn _ _ (100 + k) (by omega) (by omega)]; exact hk k hk2
      · rw [vn _ _ _ _ _ (200 + i) (by omega) (by omega) (by omega) (by omega) (by omega), vn _ _ _ _ _ (300 + i) (by omega) (by omega) (by omega) (by omega) (by omega), vn _ _ _ _ _ (400 + i) (by omega) (by omega) (by omega) (by omega) (by omega), wn _ _ (200 + i) (by omega) (by omega), wn _ _ (300 + i) (by omega) (by omega), wn _ _ (400 + i) (by omega) (by omega)]; exact hs i hi
      · rw [r6, r7, r8, r9]
        exact eT.en hc _ _ _
      · rw [r6, r7, r8, rset_n (show 500 + e ≠ 5 by omega)]
        by_cases c0 : e = c
        · subst c0
          rw [rset_s, pk_us, pk_us, pk_us, zlf_N hc, pk_us, pk_us, pk_us, hd]
          exact ⟨rfl, rfl, rfl, rfl⟩
        · rw [rset_n (show 500 + e ≠ 500 + c by omega), pk_un c0, pk_un c0, pk_un c0]
          obtain ⟨x1, x2, x3, x4⟩ := e3 e (by omega)
          rw [zlf_N (by omega)] at x4
          rw [zlf_N (by omega), pk_un c0, pk_un c0, pk_un c0]
          exact ⟨x1, x2, x3, x4⟩
      · rw [vn _ _ _ _ _ 13 (by decide) (by decide) (by decide) (by decide) (by decide)]; exact i1
      · rw [wn _ _ 7 (by decide) (by omega)]; exact i2
      · rw [vn _ _ _ _ _ 10 (by decide) (by decide) (by decide) (by decide) (by decide)]; exact i3
/-- noted, on both sides -/
theorem zSM.nt (h : zSM N V W nk ns ne) (hnk : nk ≤ 8) {set : Int32} (hb : ∀ k, k < nk → ∃ b, W (100 + k) 4 = zb b) (hV : zNt V V' set nk) (hW : mNt W W' set nk) : zSM N V' W' nk ns ne := by
  obtain ⟨⟨a1, a2, a3, a4, a5⟩, hk, hs, eT, i1, i2, i3⟩ := h
  refine ⟨?_, fun k hk2 => ?_, fun i hi => ?_, eT.of (fun r y5 y9 => hV.1 r (by omega)) (fun e he => hW.1 (500 + e) (by omega)), by rw [hV.1 13 (by omega)]; exact i1, by rw [hW.1 7 (by omega)]; exact i2, by rw [hV.1 10 (by omega)]; exact i3⟩
  · rw [hV.1 0 (by omega), hV.1 10 (by omega), hW.1 0 (by omega)]; exact ⟨a1, a2, a3, a4, a5⟩
  · obtain ⟨⟨k1, k2, k3, k4, k5⟩, k6, k7⟩ := hk k hk2
    obtain ⟨w1, w2⟩ := hW.2 k hk2
    obtain ⟨b, eb⟩ := hb k hk2
    have v := hV.2 k hk2
    rw [w1 0 (by decide), w1 1 (by decide), w1 2 (by decide), w1 3 (by decide), w2, eb, v]
    by_cases c : zbt set k = true
    · rw [if_pos c, c, zb_or, Bool.or_true]
      exact ⟨⟨k1, k2, k3, k4, rfl⟩, k6, k7⟩
    · rw [if_neg c, Bool.eq_false_iff.mpr c, zb_or, Bool.or_false, ← eb]
      exact ⟨⟨k1, k2, k3, k4, k5⟩, k6, k7⟩
  · rw [hV.1 (200 + i) (by omega), hV.1 (300 + i) (by omega), hV.1 (400 + i) (by omega), hW.1 (200 + i) (by omega), hW.1 (300 + i) (by omega), hW.1 (400 + i) (by omega)]; exact hs i hi
/-- a door tried, on both sides: the same answer, and the relation kept -/
theorem zSM.op (h : zSM N V W nk ns ne) (hN : N < 2 ^ 20) (hnk : nk ≤ 8) (hns : ns ≤ 6) (hb : ∀ k, k < nk → ∃ b, W (100 + k) 4 = zb b) {i g : Nat} {x : Int32} {r q : Option Value} (hi : i < ns) (hg : g < 256) (hV : zOp V V' nk i (nI g) x r) (hW : mOp W W' nk ne ne' i g x q) : r = q ∧ zSM N V' W' nk ns ne' := by
  obtain ⟨V4, hd, hV⟩ := hV
  obtain ⟨t, ht1, ht4, ht, hW⟩ := hW
  obtain ⟨k4, e12, hgv⟩ := h.dd hN hnk hi hg ht ht1 ht4 hd
  have h4 := h.c k4
  have hl := mgr_lt (V := W) (si := i) (s := g)
  have hr0 := rg0_lt (inv := W 7) (h := mgv W i) (g := mgr W i g) (b := (rmb (W 7) (mgv W i) t (mgr W i g) (mgr W i g)).1)
  have f0 : V4 12 0 = nI t := by rw [e12]; rfl
  have f1 : V4 12 1 = nI (2 * mgr W i g) := by rw [e12]; rfl
  have f2 : V4 12 2 = nI (2 * (rmb (W 7) (mgv W i) t (mgr W i g) (mgr W i g)).1) := by rw [e12]; rfl
  have f3 : V4 12 3 = nI (2 * rg0 (W 7) (mgv W i) (mgr W i g) (rmb (W 7) (mgv W i) t (mgr W i g) (mgr W i g)).1) := by rw [e12]; rfl
  rw [f1, shr_2 (by omega), h4.lw hi, f0, f3, zgood_rgd hl ht1 (by omega)] at hV
  rcases hV with ⟨l1, rfl, n1⟩ | ⟨l1, g1, rfl, n1⟩ | ⟨l1, g1, V5, n5, n1, rfl⟩ <;> rcases hW with ⟨m1, rfl, p1⟩ | ⟨m1, d1, rfl, W2, w2, p1⟩ | ⟨m1, d1, W2, W3, W5, w2, w3, p1, w5, rfl⟩
  · refine ⟨rfl, ?_⟩
    have a := h4.1
    have s := h4.cnt (W 0 2) (W 0 3 + 1) (W 0 4) (W 0 5) (W 0 0)
    rw [a.1, a.2.1, a.2.2.1, a.2.2.2.1] at n1
    exact s.en hns hnk (dy := W 0 2) rfl n1 p1
  · rw [l1] at m1; cases m1
  · rw [l1] at m1; cases m1
  · rw [l1] at m1; cases m1
  · refine ⟨rfl, ?_⟩
    have h5 := h4.p w2
    have a := h5.1
    have s := h5.cnt (W2 0 2) (W2 0 3) (W2 0 4 + 1) (W2 0 5) (W2 0 0)
    rw [a.1, a.2.1, a.2.2.1, a.2.2.2.1] at n1
    exact s.en hns hnk (dy := W2 0 2) rfl n1 p1
  · rw [g1] at d1; cases d1
  · rw [l1] at m1; cases m1
  · rw [g1] at d1; cases d1
  · have hb0 : (rmb (W 7) (mgv W i) t (mgr W i g) (mgr W i g)).1 ≠ 0 := by
      refine rmb_ne hl ht1 ?_
      unfold rgd at d1
      rw [Bool.and_eq_true, decide_eq_true_eq] at d1
      exact (nI_leI (by omega) (by have := zpop_le (mgr W i g) (by omega); omega)).mp d1.1
    have hr1 : rg0 (W 7) (mgv W i) (mgr W i g) (rmb (W 7) (mgv W i) t (mgr W i g) (mgr W i g)).1 = rag (W 7) (mgv W i) (mgr W i g) (rmb (W 7) (mgv W i) t (mgr W i g) (mgr W i g)).1 := if_neg hb0
    rw [hr1, liars_eq hl rag_lt] at n5
    have s5 := (h4.p w2).nt hnk (fun k hk => by rw [w2.r (r := 100 + k) (by omega) (by omega)]; exact hb k hk) n5 w3
    have s6 := s5.en hns hnk (dy := V5 0 0) s5.1.1 n1 p1
    refine ⟨?_, s6.p w5⟩
    have v12 : V' 12 = V4 12 ∧ V' 13 = V4 13 ∧ V' 14 = V4 14 := by
      have e : ∀ r, r = 12 ∨ r = 13 ∨ r = 14 → V' r = V5 r := fun r hr => by
        rcases n1 with ⟨-, rfl⟩ | ⟨c, -, -, rfl⟩
        · rfl
        · rw [rset_n (by omega), rset_n (by omega), rset_n (by omega), rset_n (by omega), rset_n (by omega)]
      exact ⟨(e 12 (by omega)).trans (n5.1 12 (by omega)), (e 13 (by omega)).trans (n5.1 13 (by omega)), (e 14 (by omega)).trans (n5.1 14 (by omega))⟩
    rw [v12.1, v12.2.1, v12.2.2, f2, show (0 : Int32) = nI 0 from nI_0.symm, h.val k4 hgv]
end ZSTEP


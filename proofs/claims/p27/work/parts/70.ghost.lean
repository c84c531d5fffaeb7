
/-! the ghost state -/
theorem gEn (W : Nat → Nat → Int32) {ne : Nat} (h : ne ≤ 64) (kd ab : Int32) : ∃ W' ne', ne' ≤ 64 ∧ mEn W W' ne ne' kd ab := by
  by_cases e : ne = 64
  · exact ⟨W, ne, h, Or.inl ⟨e, e, rfl⟩⟩
  · exact ⟨_, ne + 1, by omega, Or.inr ⟨by omega, rfl, rfl⟩⟩
theorem gNt (W : Nat → Nat → Int32) (set : Int32) (nk : Nat) : ∃ W', mNt W W' set nk := by
  refine ⟨fun r j => if 100 ≤ r ∧ r < 100 + nk ∧ j = 4 then W r 4 ||| zb (zbt set (r - 100)) else W r j, fun r hr => funext fun j => if_neg (fun q => hr ⟨q.1, q.2.1⟩), fun k hk => ⟨fun j hj => if_neg (fun q => by omega), ?_⟩⟩
  have e : 100 + k - 100 = k := by omega
  show (if 100 ≤ 100 + k ∧ 100 + k < 100 + nk ∧ 4 = 4 then W (100 + k) 4 ||| zb (zbt set (100 + k - 100)) else W (100 + k) 4) = _
  rw [if_pos ⟨by omega, by omega, rfl⟩, e]
theorem gOp (W : Nat → Nat → Int32) {nk ne : Nat} (h : ne ≤ 64) (si g : Nat) (x : Int32) {t : Nat} (ht1 : 1 ≤ t) (ht4 : t ≤ 4) (ht : W (200 + si) 0 = nI t) : ∃ W' ne' r, ne' ≤ 64 ∧ mOp W W' nk ne ne' si g x r := by
  cases hm : mlw W nk si (nI (mgr W si g)) with
  | false =>
    obtain ⟨W', ne', h1, h2⟩ := gEn (rset W 0 (zm6 (W 0 0) (W 0 1) (W 0 2) (W 0 3 + 1) (W 0 4) (W 0 5))) h 5 x
    exact ⟨W', ne', _, h1, t, ht1, ht4, ht, Or.inl ⟨hm, rfl, h2⟩⟩
  | true =>
    cases hd : rgd (W 7) (mgv W si) t (mgr W si g) with
    | false =>
      obtain ⟨W', ne', h1, h2⟩ := gEn (rset W 0 (zm6 (W 0 0) (W 0 1) (W 0 2) (W 0 3) (W 0 4 + 1) (W 0 5))) h 6 x
      exact ⟨W', ne', _, h1, t, ht1, ht4, ht, Or.inr (Or.inl ⟨hm, hd, rfl, W, zKp.rf, h2⟩)⟩
    | true =>
      obtain ⟨W3, h3⟩ := gNt W (nI (mgr W si g) &&& (nI (rag (W 7) (mgv W si) (mgr W si g) (rmb (W 7) (mgv W si) t (mgr W si g) (mgr W si g)).1) ^^^ (-1))) nk
      obtain ⟨W', ne', h1, h2⟩ := gEn W3 h 4 x
      exact ⟨W', ne', _, h1, t, ht1, ht4, ht, Or.inr (Or.inr ⟨hm, hd, W, W3, W', zKp.rf, h3, h2, zKp.rf, rfl⟩)⟩
theorem gTt (W : Nat → Nat → Int32) (si : Nat) (b0 : Bool) (set : Int32) (i : Nat) : ∃ W', mTt W W' si b0 set i := by
  refine ⟨rset W (200 + si) (fun j => if j = 5 then zb (b0 || zany (fun k => zbt set k && decide (W (100 + k) 3 ≠ 0)) i) else W (200 + si) j), fun r hr => rset_n hr, fun j hj => ?_, ?_⟩
  · rw [rset_s, if_neg (by omega)]
  · rw [rset_s, if_pos rfl]
theorem gRb (W : Nat → Nat → Int32) {nk ne : Nat} (h : ne ≤ 64) (si ki g : Nat) (x : Int32) {t : Nat} (ht1 : 1 ≤ t) (ht4 : t ≤ 4) (ht : W (200 + si) 0 = nI t) (hd : rgd (W 7) (mgv W si) t (mgr W si g) = true) {b0 : Bool} (hb : W (200 + si) 5 = zb b0) : ∃ W' ne' r, ne' ≤ 64 ∧ mRb W W' nk ne ne' si ki g x r := by
  obtain ⟨W7, h7⟩ := gTt (rset (rset W (300 + si) (upd (W (300 + si)) ki (zth (W 7) (gvs (mgv W si)) (nI (2 * (rmb (W 7) (mgv W si) t (mgr W si g) (mgr W si g)).1)) (nI (ki + 1))))) (400 + si) (upd (W (400 + si)) ki (W (200 + si) 3))) si b0 (nI (mgr W si g)) 8
  obtain ⟨W8, ne', h1, h8⟩ := gEn W7 h 3 x
  exact ⟨_, ne', _, h1, t, W, _, W7, W8, b0, ht1, ht4, ht, hd, zKp.rf, hb, rfl, h7, h8, rfl, rfl⟩
theorem gFd (W : Nat → Nat → Int32) {ns : Nat} (hns : ns ≤ 6) (x : Int32) (D : Nat → Nat → Bool) : ∃ W', mFd W W' ns x D := by
  refine ⟨fun r j => if 300 ≤ r ∧ r < 300 + ns ∧ D (r - 300) j = true ∧ mfl W x (r - 300) j = true then -1 else if 400 ≤ r ∧ r < 400 + ns ∧ D (r - 400) j = true ∧ mfl W x (r - 400) j = true then -1 else W r j, fun r h1 h2 => funext fun j => ?_, fun s hs j => ?_⟩
  · have n1 : ¬ (300 ≤ r ∧ r < 300 + ns ∧ D (r - 300) j = true ∧ mfl W x (r - 300) j = true) := fun q => h1 ⟨q.1, q.2.1⟩
    have n2 : ¬ (400 ≤ r ∧ r < 400 + ns ∧ D (r - 400) j = true ∧ mfl W x (r - 400) j = true) := fun q => h2 ⟨q.1, q.2.1⟩
    exact (if_neg n1).trans (if_neg n2)
  · have e3 : 300 + s - 300 = s := Nat.add_sub_cancel_left ..
    have e4 : 400 + s - 400 = s := Nat.add_sub_cancel_left ..
    have k1 : ∀ q : D s j = true ∧ mfl W x s j = true, (if 300 ≤ 300 + s ∧ 300 + s < 300 + ns ∧ D (300 + s - 300) j = true ∧ mfl W x (300 + s - 300) j = true then (-1 : Int32) else if 400 ≤ 300 + s ∧ 300 + s < 400 + ns ∧ D (300 + s - 400) j = true ∧ mfl W x (300 + s - 400) j = true then -1 else W (300 + s) j) = -1 := fun q => if_pos (by rw [e3]; exact ⟨by omega, by omega, q.1, q.2⟩)
    have k2 : ∀ q : D s j = true ∧ mfl W x s j = true, (if 300 ≤ 400 + s ∧ 400 + s < 300 + ns ∧ D (400 + s - 300) j = true ∧ mfl W x (400 + s - 300) j = true then (-1 : Int32) else if 400 ≤ 400 + s ∧ 400 + s < 400 + ns ∧ D (400 + s - 400) j = true ∧ mfl W x (400 + s - 400) j = true then -1 else W (400 + s) j) = -1 := fun q => (if_neg (fun y => by have := y.2.1; omega)).trans (if_pos (by rw [e4]; exact ⟨by omega, by omega, q.1, q.2⟩))
    have k3 : ∀ q : ¬ (D s j = true ∧ mfl W x s j = true), (if 300 ≤ 300 + s ∧ 300 + s < 300 + ns ∧ D (300 + s - 300) j = true ∧ mfl W x (300 + s - 300) j = true then (-1 : Int32) else if 400 ≤ 300 + s ∧ 300 + s < 400 + ns ∧ D (300 + s - 400) j = true ∧ mfl W x (300 + s - 400) j = true then -1 else W (300 + s) j) = W (300 + s) j := fun q => (if_neg (fun y => by rw [e3] at y; exact q y.2.2)).trans (if_neg (fun y => by have := y.1; omega))
    have k4 : ∀ q : ¬ (D s j = true ∧ mfl W x s j = true), (if 300 ≤ 400 + s ∧ 400 + s < 300 + ns ∧ D (400 + s - 300) j = true ∧ mfl W x (400 + s - 300) j = true then (-1 : Int32) else if 400 ≤ 400 + s ∧ 400 + s < 400 + ns ∧ D (400 + s - 400) j = true ∧ mfl W x (400 + s - 400) j = true then -1 else W (400 + s) j) = W (400 + s) j := fun q => (if_neg (fun y => by have := y.2.1; omega)).trans (if_neg (fun y => by rw [e4] at y; exact q y.2.2))
    exact ⟨fun q => ⟨k1 q, k2 q⟩, fun q => ⟨k3 q, k4 q⟩⟩
theorem gLk (W : Nat → Nat → Int32) (l : Int32) : ∃ W', mLk W W' l :=
  ⟨rset W 0 (fun j => if j = 1 then l else W 0 j), ⟨by rw [rset_s]; rfl, by rw [rset_s]; rfl, by rw [rset_s]; rfl, by rw [rset_s]; rfl, by rw [rset_s]; rfl, by rw [rset_s]; rfl⟩, fun r hr => rset_n hr⟩
theorem gHd (W : Nat → Nat → Int32) (si : Nat) (cw : Int32) (nw : Nat → Int32) (i : Nat) : ∃ W', zHd W W' si cw nw i := by
  refine ⟨rset (rset W (300 + si) (fun j => if j < i ∧ zbt cw j = true then nw j else W (300 + si) j)) (400 + si) (fun j => if j < i ∧ zbt cw j = true then W (200 + si) 3 else W (400 + si) j), fun r h1 h2 => by rw [rset_n h2, rset_n h1], fun j => ?_⟩
  rw [rset_n (show 300 + si ≠ 400 + si by omega), rset_s, rset_s]
  exact ⟨fun h => ⟨if_pos h, if_pos h⟩, fun h => ⟨if_neg h, if_neg h⟩⟩
theorem gSh (set : Int32) (nw : Nat → Int32) (i : Nat) : ∃ u1 u2, zSh set nw u1 u2 i :=
  ⟨fun j => if j < i ∧ zbt set j = true then nw j else -1, fun j => if j < i ∧ zbt set j = true then 0 else -1, fun j _ => ⟨fun h => ⟨if_pos h, if_pos h⟩, fun h => ⟨if_neg h, if_neg h⟩⟩⟩
theorem gDl (W : Nat → Nat → Int32) {ns ne : Nat} (h : ne ≤ 64) (tn : Nat) (x z dt set : Int32) : ∃ W' ne', ne' ≤ 64 ∧ mDl W W' ns ne ne' tn x z dt set := by
  obtain ⟨W2, h2⟩ := gLk W (zlkn (nI tn) (W 0 1) tn)
  obtain ⟨u1, u2, hu⟩ := gSh set (fun j => zcN (fun j => zcvn x (nI tn) (W 0 1) j) (nI j + 1) tn tn) 8
  obtain ⟨W', ne', h1, h3⟩ := gEn (rset (rset (rset (rset W2 (200 + ns) (zs6n (nI tn) z dt 0 0 0)) (300 + ns) u1) (400 + ns) u2) 3 (fun _ => 0)) h 0 (nI ns)
  exact ⟨W', ne', h1, W2, _, u1, u2, 0, h2, fun _ _ => rfl, hu, h3⟩
/-! what p27 keeps: thresholds 1, told of keepers and liars by truth, the current shares of an untouched secret alike -/
def gP (W : Nat → Nat → Int32) (nk ns : Nat) : Prop := (∀ k, k < nk → (∃ b, W (100 + k) 4 = zb b) ∧ ∃ r, r < 101 ∧ W (100 + k) 2 = nI r) ∧ ∀ i, i < ns → W (200 + i) 0 = nI 1 ∧ (∃ b, W (200 + i) 5 = zb b) ∧ (W (200 + i) 5 = 0 → ∃ v, v < 97 ∧ ∀ k, k < 8 → zgd (W (300 + i)) (W (400 + i)) (W (200 + i) 3) k = true → W (300 + i) k = nI v)
theorem zfs_1 {f : Nat → Bool} : ∀ n, (∃ k, k < n ∧ f k = true) → ∃ p, p < n ∧ zfs f 1 p = true ∧ ∀ j, j < n → zfs f 1 j = true → j = p
  | 0, ⟨k, hk, _⟩ => absurd hk (Nat.not_lt_zero k)
  | n + 1, ⟨k, hk, hf⟩ => by
    by_cases e : ∃ k, k < n ∧ f k = true
    · obtain ⟨p, p1, p2, p3⟩ := zfs_1 n e
      refine ⟨p, by omega, p2, fun j hj hz => ?_⟩
      by_cases ej : j = n
      · exfalso
        subst ej
        unfold zfs at hz p2
        rw [Bool.and_eq_true, decide_eq_true_eq] at hz p2
        have h1 := zcnt_le (f := f) j (show p + 1 ≤ j by omega)
        rw [zcnt_step p2.1] at h1
        omega
      · exact p3 j (by omega) hz
    · have hk2 : k = n := by
        by_cases c : k < n
        · exact absurd ⟨k, c, hf⟩ e
        · omega
      subst hk2
      have hz : zcnt f k = 0 := zcnt_no k fun j hj => by
        cases hj2 : f j with
        | false => rfl
        | true => exact absurd ⟨j, hj, hj2⟩ e
      refine ⟨k, Nat.lt_succ_self k, by unfold zfs; rw [hf, hz]; rfl, fun j hj hzj => ?_⟩
      unfold zfs at hzj
      rw [Bool.and_eq_true] at hzj
      by_cases ej : j = k
      · exact ej
      · exact absurd ⟨j, by omega, hzj.1⟩ e
section GP
variable {W W' : Nat → Nat → Int32} {nk ns ne ne' : Nat}
theorem gP.of (h : gP W nk ns) (hnk : nk ≤ 8) (hns : ns ≤ 6) (hr : ∀ r, 100 ≤ r → r < 500 → W' r = W r) : gP W' nk ns := by
  refine ⟨fun k hk => by rw [hr (100 + k) (by omega) (by omega)]; exact h.1 k hk, fun i hi => ?_⟩
  rw [hr (200 + i) (by omega) (by omega), hr (300 + i) (by omega) (by omega), hr (400 + i) (by omega) (by omega)]
  exact h.2 i hi
theorem gP.en (h : gP W nk ns) (hnk : nk ≤ 8) (hns : ns ≤ 6) {kd ab : Int32} (hE : mEn W W' ne ne' kd ab) : gP W' nk ns := h.of hnk hns fun _ h1 h2 => hE.row (by omega) h2
theorem gP.r0 (h : gP W nk ns) (hnk : nk ≤ 8) (hns : ns ≤ 6) (v : Nat → Int32) : gP (rset W 0 v) nk ns := h.of hnk hns fun _ h1 _ => rset_n (by omega)
theorem gP.nt (h : gP W nk ns) (hnk : nk ≤ 8) (hns : ns ≤ 6) {set : Int32} (hN : mNt W W' set nk) : gP W' nk ns := by
  refine ⟨fun k hk => ?_, fun i hi => ?_⟩
  · obtain ⟨⟨b, e⟩, r, hr, er⟩ := h.1 k hk
    rw [(hN.2 k hk).2, e, zb_or, (hN.2 k hk).1 2 (by decide)]
    exact ⟨⟨_, rfl⟩, r, hr, er⟩
  · rw [hN.1 (200 + i) (by omega), hN.1 (300 + i) (by omega), hN.1 (400 + i) (by omega)]
    exact h.2 i hi
theorem gP.op (h : gP W nk ns) (hnk : nk ≤ 8) (hns : ns ≤ 6) {si g : Nat} {x : Int32} {r : Option Value} (hO : mOp W W' nk ne ne' si g x r) : gP W' nk ns := by
  obtain ⟨t, -, -, -, hO⟩ := hO
  rcases hO with ⟨-, -, hE⟩ | ⟨-, -, -, W2, hK, hE⟩ | ⟨-, -, W2, W3, W5, hK, hN, hE, hK2, -⟩
  · exact (h.r0 hnk hns _).en hnk hns hE
  · exact ((h.of hnk hns fun r h1 _ => hK.r (by omega) (by omega)).r0 hnk hns _).en hnk hns hE
  · exact (((h.of hnk hns fun r h1 _ => hK.r (by omega) (by omega)).nt hnk hns hN).en hnk hns hE).of hnk hns fun r h1 _ => hK2.r (by omega) (by omega)
theorem gP.fd (h : gP W nk ns) (hnk : nk ≤ 8) (hns : ns ≤ 6) {x : Int32} {D : Nat → Nat → Bool} (hF : mFd W W' ns x D) : gP W' nk ns := by
  refine ⟨fun k hk => by rw [hF.1 (100 + k) (by omega) (by omega)]; exact h.1 k hk, fun i hi => ?_⟩
  obtain ⟨h1, h2, h3⟩ := h.2 i hi
  rw [hF.1 (200 + i) (by omega) (by omega)]
  refine ⟨h1, h2, fun q => ?_⟩
  obtain ⟨v, hv, h4⟩ := h3 q
  refine ⟨v, hv, fun k hk hz => ?_⟩
  have hc := hF.2 i hi k
  unfold zgd at hz
  rw [Bool.and_eq_true, decide_eq_true_eq, decide_eq_true_eq] at hz
  by_cases c : D i k = true ∧ mfl W x i k = true
  · exact absurd (hc.1 c).1 hz.1
  · obtain ⟨c1, c2⟩ := hc.2 c
    rw [c1]
    refine h4 k hk ?_
    unfold zgd
    rw [← c1, ← c2, decide_eq_true hz.1, decide_eq_true hz.2]
    rfl
theorem gP.kp (h : gP W nk ns) (hnk : nk < 8) (hns : ns ≤ 6) (x z w m : Int32) (hw : ∃ r, r < 101 ∧ w = nI r) : gP (rset (rset W (100 + nk) (zw5 x z w 0 0)) 1 (fun _ => m)) (nk + 1) ns := by
  refine ⟨fun k hk => ?_, fun i hi => ?_⟩
  · by_cases e : k = nk
    · subst e
      rw [rset_n (by omega), rset_s]
      exact ⟨⟨false, rfl⟩, hw⟩
    · rw [rset_n (by omega), rset_n (by omega)]
      exact h.1 k (by omega)
  · rw [rset_n (show 200 + i ≠ 1 by omega), rset_n (show 200 + i ≠ 100 + nk by omega), rset_n (show 300 + i ≠ 1 by omega), rset_n (show 300 + i ≠ 100 + nk by omega), rset_n (show 400 + i ≠ 1 by omega), rset_n (show 400 + i ≠ 100 + nk by omega)]
    exact h.2 i hi
theorem gP.li (h : gP W nk ns) (hnk : nk ≤ 8) (hns : ns ≤ 6) {q : Nat} (hq : q < nk) (w : Int32) : gP (rset W (100 + q) (zk5 (W (100 + q)) w (W (100 + q) 4))) nk ns := by
  refine ⟨fun k hk => ?_, fun i hi => ?_⟩
  · by_cases e : k = q
    · subst e
      rw [rset_s]
      exact h.1 k hk
    · rw [rset_n (by omega)]
      exact h.1 k hk
  · rw [rset_n (show 200 + i ≠ 100 + q by omega), rset_n (show 300 + i ≠ 100 + q by omega), rset_n (show 400 + i ≠ 100 + q by omega)]
    exact h.2 i hi
theorem gP.fz (h : gP W nk ns) (hnk : nk ≤ 8) (hns : ns ≤ 6) {q : Nat} (hq : q < ns) (f : Int32) : gP (rset W (200 + q) (zs6 (W (200 + q)) (W (200 + q) 3) f (W (200 + q) 5))) nk ns := by
  refine ⟨fun k hk => by rw [rset_n (show 100 + k ≠ 200 + q by omega)]; exact h.1 k hk, fun i hi => ?_⟩
  rw [rset_n (show 300 + i ≠ 200 + q by omega), rset_n (show 400 + i ≠ 200 + q by omega)]
  by_cases e : i = q
  · subst e
    rw [rset_s]
    exact h.2 i hi
  · rw [rset_n (show 200 + i ≠ 200 + q by omega)]
    exact h.2 i hi
/-- a curve of one number -/
theorem zcN_1 (f : Nat → Int32) (x : Int32) : zcN f x 1 1 = zr97 (f 0) := by
  show zr97 (nI 0 * x + f 0) = _
  rw [nI_0, Int32.zero_mul, Int32.zero_add]
theorem gP.dl (h : gP W nk ns) (hnk : nk ≤ 8) (hns : ns < 6) {a9 : Nat} (ha : a9 < 97) {z dt set : Int32} (hD : mDl W W' ns ne ne' 1 (nI a9) z dt set) : gP W' nk (ns + 1) := by
  obtain ⟨W2, fc, u1, u2, mc, hL, hc, hu, hE⟩ := hD
  have r4 : ∀ (a b c e : Nat → Int32) r, r ≠ 3 → r ≠ 200 + ns → r ≠ 300 + ns → r ≠ 400 + ns → (rset (rset (rset (rset W2 (200 + ns) a) (300 + ns) b) (400 + ns) c) 3 e) r = W2 r := fun a b c e r y1 y2 y3 y4 => by rw [rset_n y1, rset_n y4, rset_n y3, rset_n y2]
  have key : gP (rset (rset (rset (rset W2 (200 + ns) (zs6n (nI 1) z dt 0 0 0)) (300 + ns) u1) (400 + ns) u2) 3 (fun _ => mc)) nk (ns + 1) := by
    refine ⟨fun k hk => ?_, fun i hi => ?_⟩
    · rw [r4 _ _ _ _ (100 + k) (by omega) (by omega) (by omega) (by omega), hL.2 (100 + k) (by omega)]
      exact h.1 k hk
    · by_cases e : i = ns
      · subst e
        have e2 : (rset (rset (rset (rset W2 (200 + i) (zs6n (nI 1) z dt 0 0 0)) (300 + i) u1) (400 + i) u2) 3 (fun _ => mc)) (200 + i) = zs6n (nI 1) z dt 0 0 0 := by rw [rset_n (by omega), rset_n (by omega), rset_n (by omega), rset_s]
        have e3 : (rset (rset (rset (rset W2 (200 + i) (zs6n (nI 1) z dt 0 0 0)) (300 + i) u1) (400 + i) u2) 3 (fun _ => mc)) (300 + i) = u1 := by rw [rset_n (by omega), rset_n (by omega), rset_s]
        have e4 : (rset (rset (rset (rset W2 (200 + i) (zs6n (nI 1) z dt 0 0 0)) (300 + i) u1) (400 + i) u2) 3 (fun _ => mc)) (400 + i) = u2 := by rw [rset_n (by omega), rset_s]
        rw [e2, e3, e4]
        refine ⟨rfl, ⟨false, rfl⟩, fun _ => ⟨a9, ha, fun k hk hz => ?_⟩⟩
        unfold zgd at hz
        rw [Bool.and_eq_true, decide_eq_true_eq] at hz
        have hq := hu k hk
        by_cases b : zbt set k = true
        · rw [(hq.1 ⟨hk, b⟩).1]
          show zcN fc (nI k + 1) 1 1 = nI a9
          rw [zcN_1, hc 0 (by decide), show zcvn (nI a9) (nI 1) (W 0 1) 0 = nI a9 from if_pos rfl, zr97_N (by omega), Nat.mod_eq_of_lt ha]
        · exact absurd (hq.2 (fun y => b y.2)).1 hz.1
      · rw [r4 _ _ _ _ (200 + i) (by omega) (by omega) (by omega) (by omega), r4 _ _ _ _ (300 + i) (by omega) (by omega) (by omega) (by omega), r4 _ _ _ _ (400 + i) (by omega) (by omega) (by omega) (by omega), hL.2 (200 + i) (by omega), hL.2 (300 + i) (by omega), hL.2 (400 + i) (by omega)]
        exact h.2 i (by omega)
  exact key.en hnk (by omega) hE
/-- the only member's number -/
theorem ntI_1 {b : Nat → Bool} {iv : Nat → Nat} {x p a : Nat} (hb : ∀ k, k < 9 → b k = true → k = p) : ∀ n, n ≤ 9 → ntI b iv x p a n = a
  | 0, _ => rfl
  | n + 1, h => by
    unfold ntI
    rw [ntI_1 hb n (by omega)]
    by_cases e : n = p ∨ b n = false
    · rw [if_pos e]
    · exfalso
      apply e
      cases hn : b n with
      | false => exact Or.inr rfl
      | true => exact Or.inl (hb n (by omega) hn)
theorem ntO_1 {b : Nat → Bool} {iv g : Nat → Nat} {x p : Nat} (hb : ∀ k, k < 9 → b k = true → k = p) (hp : b p = true) (hg : g p < 97) : ∀ n, n ≤ 9 → ntO b iv g x n = if p < n then g p else 0
  | 0, _ => rfl
  | n + 1, h => by
    unfold ntO
    rw [ntO_1 hb hp hg n (by omega)]
    by_cases e : b n = false
    · rw [if_pos e]
      have : n ≠ p := fun q => by rw [q, hp] at e; cases e
      by_cases c : p < n
      · rw [if_pos c, if_pos (by omega)]
      · rw [if_neg c, if_neg (by omega)]
    · have e2 : n = p := hb n (by omega) (by cases hn : b n with | true => rfl | false => exact absurd hn e)
      subst e2
      rw [if_neg e, ntI_1 hb 9 (by decide), if_neg (Nat.lt_irrefl n), if_pos (Nat.lt_succ_self n), Nat.zero_add]
      exact Nat.mod_eq_of_lt hg
theorem zth_1 {inv gv : Nat → Int32} {iv : Nat → Nat} {set : Int32} {b : Nat → Bool} {p q x : Nat} (hi : zIv inv iv) (hs : ∀ k, k < 9 → zbt set k = b k) (hb : ∀ k, k < 9 → b k = true → k = p) (hp9 : p < 9) (hp : b p = true) (hg : gv p = nI q) (hq : q < 97) (hx : x < 97) : zth inv gv set (nI x) = nI q := by
  rw [(zth_N (g := fun _ => q) hi hs (fun k hk h1 => by
    rw [hb k hk h1]
    exact ⟨hg, hq⟩) hx).1, ntO_1 (g := fun _ => q) hb hp hq 9 (by decide), if_pos hp9]
theorem pop_1 : ∀ q, q < 256 → zpop 9 q = 1 → ∃ p, p < 8 ∧ q.testBit p = true ∧ ∀ k, k < 8 → q.testBit k = true → k = p := by decide +kernel
/-- an untouched secret is sound -/
theorem gP.oc {N : Nat} {V : Nat → Nat → Int32} (h : gP W nk ns) (hS : zSM N V W nk ns ne) {i : Nat} (hi : i < ns) : rSnd W i = true := by
  obtain ⟨h1, ⟨b, hb⟩, h3⟩ := h.2 i hi
  unfold rSnd
  cases b with
  | true => rw [decide_eq_true (p := W (200 + i) 5 ≠ 0) (by rw [hb]; decide), Bool.true_or]
  | false =>
    obtain ⟨v, hv, h4⟩ := h3 hb
    have hall : ocW W i = true := by
      unfold ocW
      rw [h1, nI_clamp (by decide)]
      refine (zall_iff 9).mpr fun k hk => ?_
      unfold roK
      cases hf : zgp (zgd (W (300 + i)) (W (400 + i)) (W (200 + i) 3)) k with
      | false => rw [Bool.not_false, Bool.true_or]
      | true =>
        by_cases c : zcnt (zgp (zgd (W (300 + i)) (W (400 + i)) (W (200 + i) 3))) k < 1
        · rw [decide_eq_true c, Bool.true_or, Bool.or_true]
        · have hgv : ∀ k, k < 9 → zgp (zgd (W (300 + i)) (W (400 + i)) (W (200 + i) 3)) k = true → gvs (W (300 + i)) k = nI v := fun k hk h1 => by
            match k, hk, h1 with
            | 0, _, h1 => cases h1
            | k + 1, hk, h1 => exact h4 k (by omega) h1
          -- the first member
          have hex : ∃ p, p < 9 ∧ zfs (zgp (zgd (W (300 + i)) (W (400 + i)) (W (200 + i) 3))) 1 p = true ∧ ∀ j, j < 9 → zfs (zgp (zgd (W (300 + i)) (W (400 + i)) (W (200 + i) 3))) 1 j = true → j = p := zfs_1 9 ⟨k, hk, hf⟩
          obtain ⟨p, hp9, hp, hu⟩ := hex
          have hpf : zgp (zgd (W (300 + i)) (W (400 + i)) (W (200 + i) 3)) p = true := by
            unfold zfs at hp
            rw [Bool.and_eq_true] at hp
            exact hp.1
          have key := zth_1 (x := k) (q := v) (gv := gvs (W (300 + i))) hS.2.2.2.2.2.1 (set := nI (zsetN (zfs (zgp (zgd (W (300 + i)) (W (400 + i)) (W (200 + i) 3))) 1) 9)) (b := zfs (zgp (zgd (W (300 + i)) (W (400 + i)) (W (200 + i) 3))) 1) (fun j hj => by
            have hl := (zset_N (zfs (zgp (zgd (W (300 + i)) (W (400 + i)) (W (200 + i) 3))) 1) 9 (by decide)).2
            rw [tb_zbt _ (by omega) j hj, zsN_at _ 9 (by decide) j hj, decide_eq_true hj, Bool.true_and]) hu hp9 hp (hgv p hp9 hpf) hv (by omega)
          rw [decide_eq_true (key.trans (hgv k hk hf).symm), Bool.or_true, Bool.or_true]
    rw [hall, Bool.or_true]
end GP


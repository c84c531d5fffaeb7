
/-! class and reference beside each other -/
section ZINV
variable {inv inw : Nat → Int32}
theorem zfm_c (x : Int32) : (zfm x).toNatClampNeg < 97 := by
  obtain ⟨j, hj, e, -⟩ := zfm_n x
  rw [e, nI_clamp (by omega)]
  exact hj
theorem zthI_inv (he : ∀ j, j < 97 → inv j = inw j) {set x part : Int32} {p : Nat} : ∀ n, zthI inv set x p n part = zthI inw set x p n part
  | 0 => rfl
  | n + 1 => by
    unfold zthI
    rw [zthI_inv he n, he _ (zfm_c _)]
theorem zthO_inv (he : ∀ j, j < 97 → inv j = inw j) {gv : Nat → Int32} {set x : Int32} : ∀ n, zthO inv gv set x n = zthO inw gv set x n
  | 0 => rfl
  | n + 1 => by
    unfold zthO
    rw [zthO_inv he n, zthI_inv he 9]
theorem zth_inv (he : ∀ j, j < 97 → inv j = inw j) {gv : Nat → Int32} {set x : Int32} : zth inv gv set x = zth inw gv set x := zthO_inv he 9
theorem rag_inv (he : ∀ j, j < 97 → inv j = inw j) {h : Nat → Int32} {g q : Nat} : rag inv h g q = rag inw h g q := by
  unfold rag
  exact zsN_congr 8 fun k _ => by rw [zth_inv he]
theorem rmb_inv (he : ∀ j, j < 97 → inv j = inw j) {h : Nat → Int32} {t g : Nat} : ∀ n, rmb inv h t g n = rmb inw h t g n
  | 0 => rfl
  | n + 1 => by
    unfold rmb
    rw [rmb_inv he n, rag_inv he]
end ZINV
/-- the tree over the leaves -/
def zTr (tr ks ss ds : Nat → Int32) (ne : Nat) : Prop := (∀ n, 1 ≤ n → n < 64 → tr n = zjo (tr (2 * n)) (tr (2 * n + 1))) ∧ ∀ k, k < 64 → tr (64 + k) = if k < ne then zlf ks ss ds (nI k) else 0
/-- the entries, on both sides -/
def zEt (V W : Nat → Nat → Int32) (ne : Nat) : Prop := V 5 0 = nI ne ∧ (ne ≤ 64 ∧ zTr (V 9) (V 6) (V 7) (V 8) ne) ∧ ∀ e, e < ne → V 6 e = W (500 + e) 0 ∧ V 7 e = W (500 + e) 1 ∧ V 8 e = W (500 + e) 2 ∧ zlf (V 6) (V 7) (V 8) (nI e) = W (500 + e) 3
theorem zEt.of {V V' W W' : Nat → Nat → Int32} {ne : Nat} (h : zEt V W ne) (hV : ∀ r, 5 ≤ r → r ≤ 9 → V' r = V r) (hW : ∀ e, e < 64 → W' (500 + e) = W (500 + e)) : zEt V' W' ne := by
  obtain ⟨e1, e2, e3⟩ := h
  unfold zEt
  rw [hV 5 (by decide) (by decide), hV 6 (by decide) (by decide), hV 7 (by decide) (by decide), hV 8 (by decide) (by decide), hV 9 (by decide) (by decide)]
  refine ⟨e1, e2, fun e he => ?_⟩
  rw [hW e (Nat.lt_of_lt_of_le he e2.1)]
  exact e3 e he
def zSM (N : Nat) (V W : Nat → Nat → Int32) (nk ns ne : Nat) : Prop :=
  (V 0 0 = W 0 2 ∧ V 0 1 = W 0 3 ∧ V 0 2 = W 0 4 ∧ V 0 3 = W 0 5 ∧ V 10 0 = W 0 1) ∧
  (∀ k, k < nk → (V (100 + k) 1 = W (100 + k) 0 ∧ V (100 + k) 2 = W (100 + k) 1 ∧ V (100 + k) 3 = W (100 + k) 2 ∧ V (100 + k) 4 = W (100 + k) 3 ∧ V (100 + k) 5 = W (100 + k) 4) ∧ ((∃ z, z < 4 ∧ V (100 + k) 1 = nI z) ∧ ∃ p, 1 ≤ p ∧ p ≤ 99 ∧ V (100 + k) 2 = nI p) ∧ ∃ l, l < 97 ∧ V (100 + k) 4 = nI l) ∧
  (∀ i, i < ns → (∀ j, j ≤ 5 → V (200 + i) j = W (200 + i) j) ∧ (∃ f, f < 4 ∧ V (200 + i) 4 = nI f) ∧ ∃ E, E ≤ N ∧ V (200 + i) 3 = nI E ∧ ∀ k, k < 8 → V (300 + i) k = W (300 + i) k ∧ V (400 + i) k = W (400 + i) k ∧ ((V (300 + i) k = -1 ∧ V (400 + i) k = -1) ∨ (k < nk ∧ ∃ s e, s < 97 ∧ e ≤ E ∧ V (300 + i) k = nI s ∧ V (400 + i) k = nI e))) ∧
  zEt V W ne ∧
  zIv (V 13) zinv ∧ zIv (W 7) zinv ∧ ∃ l, l < 256 ∧ V 10 0 = nI l
section ZSM
variable {N : Nat} {V V' W W' : Nat → Nat → Int32} {nk ns ne : Nat}
theorem zSM.of (h : zSM N V W nk ns ne) (hV : ∀ r, r ≠ 12 → r ≠ 14 → V' r = V r) (hW : ∀ r, r ≠ 0 → r ≠ 8 → r ≠ 9 → W' r = W r) (hW0 : ∀ j, 1 ≤ j → j ≤ 5 → W' 0 j = W 0 j) : zSM N V' W' nk ns ne := by
  obtain ⟨⟨a1, a2, a3, a4, a5⟩, hk, hs, eT, i1, i2, i3⟩ := h
  have v0 := hV 0 (by decide) (by decide)
  refine ⟨⟨by rw [v0, hW0 2 (by decide) (by decide)]; exact a1, by rw [v0, hW0 3 (by decide) (by decide)]; exact a2, by rw [v0, hW0 4 (by decide) (by decide)]; exact a3, by rw [v0, hW0 5 (by decide) (by decide)]; exact a4, by rw [hV 10 (by decide) (by decide), hW0 1 (by decide) (by decide)]; exact a5⟩, fun k hk2 => ?_, fun i hi => ?_, eT.of (fun r y5 y9 => hV r (by omega) (by omega)) (fun e he => hW (500 + e) (by omega) (by omega) (by omega)), by rw [hV 13 (by decide) (by decide)]; exact i1, by rw [hW 7 (by decide) (by decide) (by decide)]; exact i2, by rw [hV 10 (by decide) (by decide)]; exact i3⟩
  · rw [hV (100 + k) (by omega) (by omega), hW (100 + k) (by omega) (by omega) (by omega)]; exact hk k hk2
  · rw [hV (200 + i) (by omega) (by omega), hV (300 + i) (by omega) (by omega), hV (400 + i) (by omega) (by omega), hW (200 + i) (by omega) (by omega) (by omega), hW (300 + i) (by omega) (by omega) (by omega), hW (400 + i) (by omega) (by omega) (by omega)]; exact hs i hi
theorem zSM.c (h : zSM N V W nk ns ne) (hV : zKo V V') : zSM N V' W nk ns ne := h.of (fun _ h1 h2 => hV.row h1 h2) (fun _ _ _ _ => rfl) (fun _ _ _ => rfl)
theorem zSM.m (h : zSM N V W nk ns ne) (hW : zKn W W') : zSM N V W' nk ns ne := h.of (fun _ _ _ => rfl) (fun _ h0 h8 h9 => hW.row h0 h8 h9) (fun _ h1 h5 => hW.at0 h1 h5)
theorem zSM.p (h : zSM N V W nk ns ne) (hW : zKp msc W W') : zSM N V W' nk ns ne := h.of (fun _ _ _ => rfl) (fun _ _ h8 h9 => hW.r h8 h9) (fun j _ _ => by rw [hW.r (r := 0) (by decide) (by decide)])
theorem zSM.up (h : zSM N V W nk ns ne) {N' : Nat} (hN : N ≤ N') : zSM N' V W nk ns ne := by
  obtain ⟨a, hk, hs, e, i1, i2⟩ := h
  refine ⟨a, hk, fun i hi => ?_, e, i1, i2⟩
  obtain ⟨s1, s2, E, hE, s3⟩ := hs i hi
  exact ⟨s1, s2, E, Nat.le_trans hE hN, s3⟩
theorem zSM.iv (h : zSM N V W nk ns ne) : ∀ j, j < 97 → V 13 j = W 7 j := fun j hj => (h.2.2.2.2.1 j hj).1.trans (h.2.2.2.2.2.1 j hj).1.symm
/-- a share that is current, on both sides -/
theorem zSM.cur (h : zSM N V W nk ns ne) (hN : N < 2 ^ 20) {i k : Nat} (hi : i < ns) (hk : k < 8) : zcur (V (400 + i)) (V (200 + i) 3) k = zgd (W (300 + i)) (W (400 + i)) (W (200 + i) 3) k := by
  obtain ⟨s1, -, E, hE, s3, s4⟩ := h.2.2.1 i hi
  obtain ⟨t1, t2, t3⟩ := s4 k hk
  have n1 : ∀ q, q < 2 ^ 31 → nI q ≠ -1 := fun q hq e => by
    have := congrArg Int32.toInt e
    rw [nI_toInt hq, show (-1 : Int32).toInt = -1 from rfl] at this
    omega
  unfold zcur zgd
  rw [← t1, ← t2, ← s1 3 (by decide)]
  rcases t3 with ⟨u1, u2⟩ | ⟨-, s, e, hs, he, u1, u2⟩
  · rw [u1, u2]
  · rw [u1, u2, decide_eq_true (n1 s (by omega)), decide_eq_true (n1 e (by omega))]
theorem zSM.stl (h : zSM N V W nk ns ne) (hN : N < 2 ^ 20) {i k : Nat} (hi : i < ns) (hk : k < 8) : zstl (V (400 + i)) (V (200 + i) 3) k = zst (W (300 + i)) (W (400 + i)) (W (200 + i) 3) k := by
  obtain ⟨s1, -, E, hE, s3, s4⟩ := h.2.2.1 i hi
  obtain ⟨t1, t2, t3⟩ := s4 k hk
  have n1 : ∀ q, q < 2 ^ 31 → nI q ≠ -1 := fun q hq e => by
    have := congrArg Int32.toInt e
    rw [nI_toInt hq, show (-1 : Int32).toInt = -1 from rfl] at this
    omega
  unfold zstl zst
  rw [← t1, ← t2, ← s1 3 (by decide)]
  rcases t3 with ⟨u1, u2⟩ | ⟨-, s, e, hs, he, u1, u2⟩
  · rw [u1, u2]
  · rw [u1, u2, decide_eq_true (n1 s (by omega)), decide_eq_true (n1 e (by omega))]
/-- what a current keeper gives, on both sides -/
theorem zSM.gv (h : zSM N V W nk ns ne) {i k : Nat} (hi : i < ns) (hk : k < 8) (hc : zgd (W (300 + i)) (W (400 + i)) (W (200 + i) 3) k = true) : k < nk ∧ zfm (V (300 + i) k + V (100 + k) 4) = mgv W i k ∧ ∃ j, j < 97 ∧ mgv W i k = nI j := by
  obtain ⟨s1, -, E, hE, s3, s4⟩ := h.2.2.1 i hi
  obtain ⟨t1, t2, t3⟩ := s4 k hk
  unfold zgd at hc
  rw [Bool.and_eq_true, decide_eq_true_eq, decide_eq_true_eq] at hc
  rcases t3 with ⟨u1, u2⟩ | ⟨hn, s, e, hs, he, u1, u2⟩
  · exact absurd (t1.symm.trans u1) hc.1
  · obtain ⟨⟨-, -, -, k4, -⟩, -, l, hl, k5⟩ := h.2.1 k hn
    have e1 : mgv W i k = nI ((s + l) % 97) := by
      unfold mgv
      rw [← t1, ← k4, u1, k5, nI_add, zr97_N (by omega)]
    exact ⟨hn, by rw [e1, u1, k5, nI_add, zfm_s (by omega)], _, Nat.mod_lt _ (by decide), e1⟩
theorem zSM.ok (h : zSM N V W nk ns ne) : mOk W nk ns zinv :=
  ⟨h.2.2.2.2.2.1, fun _ hsi _ h8 hz => (h.gv hsi h8 hz).2.2, fun k hk => by
    obtain ⟨⟨k1, -⟩, ⟨⟨z, hz, e⟩, -⟩, -⟩ := h.2.1 k hk
    exact ⟨z, hz, by rw [← k1]; exact e⟩⟩
theorem zsN_ext {f : Nat → Bool} {n : Nat} : ∀ m, n ≤ m → (∀ k, n ≤ k → k < m → f k = false) → zsetN f m = zsetN f n
  | 0, h, _ => by rw [Nat.le_zero.mp h]
  | m + 1, h, hf => by
    by_cases e : n = m + 1
    · rw [e]
    · show zsetN f m + (if f m then 2 ^ m else 0) = _
      rw [zsN_ext m (by omega) (fun k h1 h2 => hf k h1 (by omega)), hf m (by omega) (by omega)]
      rfl
/-- the group, on both sides -/
theorem zSM.gf (h : zSM N V W nk ns ne) (hN : N < 2 ^ 20) {i g k : Nat} (hi : i < ns) (hg : g < 256) (hk : k < 8) : zgf V i (nI g) k = (mgr W i g).testBit k := by
  unfold zgf
  rw [mgr_at hk, h.cur hN hi hk, tb_zbt g (by omega) k (by omega), Bool.and_comm]
theorem zSM.pts (h : zSM N V W nk ns ne) (hN : N < 2 ^ 20) (hnk : nk ≤ 8) {i g : Nat} (hi : i < ns) (hg : g < 256) : zset (zgp (zgf V i (nI g))) (nk + 1) = nI (2 * mgr W i g) := by
  rw [(zset_N _ (nk + 1) (by omega)).1, zgp_N]
  have e1 : zsetN (zgf V i (nI g)) 8 = zsetN (zgf V i (nI g)) nk := zsN_ext 8 hnk fun k h1 h2 => by
    rw [h.gf hN hi hg h2, mgr_at h2]
    cases hz : zgd (W (300 + i)) (W (400 + i)) (W (200 + i) 3) k with
    | false => rfl
    | true => exact absurd (h.gv hi h2 hz).1 (by omega)
  rw [← e1]
  have e2 : zsetN (zgf V i (nI g)) 8 = mgr W i g := by
    rw [zsN_congr (g := fun k => (mgr W i g).testBit k) 8 (fun k hk => h.gf hN hi hg hk)]
    exact zsN_self8 _ mgr_lt
  rw [e2]
theorem zSM.t (h : zSM N V W nk ns ne) {i t : Nat} (hi : i < ns) (ht : W (200 + i) 0 = nI t) : V (200 + i) 0 = nI t := ((h.2.2.1 i hi).1 0 (by decide)).trans ht
/-- laid and searched: what the class's group is, by the reference's sums -/
theorem zSM.dd (h : zSM N V W nk ns ne) (hN : N < 2 ^ 20) (hnk : nk ≤ 8) {i g t : Nat} (hi : i < ns) (hg : g < 256) (ht : W (200 + i) 0 = nI t) (ht1 : 1 ≤ t) (ht4 : t ≤ 4) {V4 : Nat → Nat → Int32} (hd : zDd V V4 nk i (nI g)) :
    zKo V V4 ∧ V4 12 = z4 (nI t) (nI (2 * mgr W i g)) (nI (2 * (rmb (W 7) (mgv W i) t (mgr W i g) (mgr W i g)).1)) (nI (2 * rg0 (W 7) (mgv W i) (mgr W i g) (rmb (W 7) (mgv W i) t (mgr W i g) (mgr W i g)).1)) ∧ (∀ k, k < 8 → (mgr W i g).testBit k = true → V4 14 (k + 1) = mgv W i k) := by
  obtain ⟨V3, q, hq, ⟨g1, g2, g3⟩, eq, rfl⟩ := hd
  rw [h.pts hN hnk hi hg, h.t hi ht] at g1
  have hl := mgr_lt (V := W) (si := i) (s := g)
  have e1 : V3 12 1 = nI (2 * mgr W i g) := by rw [g1]; rfl
  have eq2 : q = 2 * mgr W i g := (nI_eq (by omega) (by omega)).mp (eq.symm.trans e1)
  subst eq2
  have hgv : ∀ k, k < 8 → (mgr W i g).testBit k = true → V3 14 (k + 1) = mgv W i k := fun k hk h1 => by
    have hz : zgd (W (300 + i)) (W (400 + i)) (W (200 + i) 3) k = true := by rw [mgr_at hk, Bool.and_eq_true] at h1; exact h1.1
    obtain ⟨hn, e2, -⟩ := h.gv hi hk hz
    rw [g2 k hn (by rw [h.gf hN hi hg hk]; exact h1)]
    exact e2
  have ei : V3 13 = V 13 := g3.row (by decide) (by decide)
  have key := zdec_rmb (gv := V3 14) (t := t) (h.2.2.2.2.1) zinv_v (mgr_sm (s := g) h.ok hi) hl ht1 (by omega) hgv (mgr W i g) (Nat.le_refl _)
  rw [rmb_inv h.iv, show rg0 (V 13) (mgv W i) (mgr W i g) (rmb (W 7) (mgv W i) t (mgr W i g) (mgr W i g)).1 = rg0 (W 7) (mgv W i) (mgr W i g) (rmb (W 7) (mgv W i) t (mgr W i g) (mgr W i g)).1 from by unfold rg0; rw [rag_inv h.iv]] at key
  refine ⟨g3.tr (zKo.off (Or.inl rfl)), ?_, fun k hk h1 => by rw [rset_n (by decide)]; exact hgv k hk h1⟩
  rw [rset_s, ei, show V3 12 0 = nI t from by rw [g1]; rfl, show V3 12 2 = 0 from by rw [g1]; rfl, show V3 12 3 = 0 from by rw [g1]; rfl, key]
/-- the group's value, on both sides -/
theorem zSM.val (h : zSM N V W nk ns ne) {i g t : Nat} {V4 : Nat → Nat → Int32} (hk : zKo V V4) (hgv : ∀ k, k < 8 → (mgr W i g).testBit k = true → V4 14 (k + 1) = mgv W i k) (x : Int32) : zth (V4 13) (V4 14) (nI (2 * (rmb (W 7) (mgv W i) t (mgr W i g) (mgr W i g)).1)) x = zth (W 7) (gvs (mgv W i)) (nI (2 * (rmb (W 7) (mgv W i) t (mgr W i g) (mgr W i g)).1)) x := by
  have hl := mgr_lt (V := W) (si := i) (s := g)
  have hb := (rmb_in (inv := W 7) (h := mgv W i) (t := t) (g := mgr W i g) (mgr W i g)).1
  rw [hk.row (r := 13) (by decide) (by decide), zth_inv h.iv]
  exact gv_th (by omega) (fun k hk h1 => rmb_sub hl hl hk h1) hgv x
theorem shr_2 {q : Nat} (hq : q < 512) : nI (2 * q) >>> ((1 : Int32) &&& 31) = nI q := by
  have := pk_shrN (n := 2 * q) (by omega) ((1 : Int32) &&& 31) 1 (by decide)
  rw [this]
  exact congrArg nI (by omega)
theorem liars_eq {q a : Nat} (hq : q < 256) (ha : a < 256) : (nI (2 * q) &&& (nI (2 * a) ^^^ (-1))) >>> ((1 : Int32) &&& 31) = nI q &&& (nI a ^^^ (-1)) := by
  rw [nI_andn (by omega) (by omega), nI_andn (by omega) (by omega)]
  have e1 : zsetN (fun k => (2 * q).testBit k && !(2 * a).testBit k) 9 = 2 * zsetN (fun k => q.testBit k && !a.testBit k) 8 := by
    rw [← zgp_N]
    exact zsN_congr 9 fun k hk => by
      match k, hk with
      | 0, _ => show ((2 * q).testBit 0 && !(2 * a).testBit 0) = false; rw [(tb_2 q hq).1, Bool.false_and]
      | k + 1, hk => show ((2 * q).testBit (k + 1) && !(2 * a).testBit (k + 1)) = (q.testBit k && !a.testBit k); rw [(tb_2 q hq).2 k (by omega), (tb_2 a ha).2 k (by omega)]
  have e2 : zsetN (fun k => q.testBit k && !a.testBit k) 9 = zsetN (fun k => q.testBit k && !a.testBit k) 8 := zsN_ext 9 (by decide) fun k h1 h2 => by
    have p2 : 2 ^ 8 ≤ 2 ^ k := Nat.pow_le_pow_right (by decide) h1
    rw [Nat.testBit_lt_two_pow (i := k) (x := q) (by omega), Bool.false_and]
  have hl := (zset_N (fun k => q.testBit k && !a.testBit k) 8 (by decide)).2
  rw [e1, e2]
  exact shr_2 (by omega)
theorem zzo_congr {set : Int32} {f g : Nat → Int32} : ∀ n, (∀ k, k < n → f k = g k) → zzo set f n = zzo set g n
  | 0, _ => rfl
  | n + 1, h => by
    unfold zzo
    rw [zzo_congr n (fun k hk => h k (by omega)), h n (by omega)]
theorem zSM.lw (h : zSM N V W nk ns ne) {i : Nat} (hi : i < ns) (set : Int32) : zlw V nk i set = mlw W nk i set := by
  obtain ⟨s1, -⟩ := h.2.2.1 i hi
  unfold zlw mlw
  rw [zzo_congr (g := fun k => W (100 + k) 0) nk (fun k hk => (h.2.1 k hk).1.1), s1 1 (by decide), s1 2 (by decide), s1 4 (by decide), h.1.1]
end ZSM



theorem zany_congr {f g : Nat → Bool} : ∀ n, (∀ k, k < n → f k = g k) → zany f n = zany g n
  | 0, _ => rfl
  | n + 1, h => by
    show (zany f n || f n) = (zany g n || g n)
    rw [zany_congr n (fun k hk => h k (by omega)), h n (by omega)]
theorem zany_ext {f : Nat → Bool} {n : Nat} : ∀ m, n ≤ m → (∀ k, n ≤ k → k < m → f k = false) → zany f m = zany f n
  | 0, h, _ => by rw [Nat.le_zero.mp h]
  | m + 1, h, hf => by
    by_cases e : n = m + 1
    · rw [e]
    · show (zany f m || f m) = _
      rw [zany_ext m (by omega) (fun k h1 h2 => hf k h1 (by omega)), hf m (by omega) (by omega), Bool.or_false]
theorem mEn.r0 {W W' : Nat → Nat → Int32} {ne ne' : Nat} {kd ab : Int32} {z : Nat → Int32} (h : mEn W W' ne ne' kd ab) (hz : z 2 = W 0 2) : mEn (rset W 0 z) (rset W' 0 z) ne ne' kd ab := by
  rcases h with ⟨a, b, rfl⟩ | ⟨a, b, rfl⟩
  · exact Or.inl ⟨a, b, rfl⟩
  · refine Or.inr ⟨a, b, ?_⟩
    rw [rset_comm (show (5 : Nat) ≠ 0 by decide), rset_comm (show 500 + ne ≠ 0 by omega), rset_s, hz, rset_n (show (5 : Nat) ≠ 0 by decide)]
section ZREB
variable {N : Nat} {V V' W W' : Nat → Nat → Int32} {nk ns ne ne' : Nat}
/-- one share rebuilt, on both sides -/
theorem zSM.h1 (h : zSM N V W nk ns ne) (hns : ns ≤ 6) (hnk : nk ≤ 8) {i ki s : Nat} {v : Int32} (hi : i < ns) (hk : ki < nk) (hs9 : s < 97) (ev : v = nI s) : zSM N (rset (rset V (300 + i) (upd (V (300 + i)) ki v)) (400 + i) (upd (V (400 + i)) ki (V (200 + i) 3))) (rset (rset W (300 + i) (upd (W (300 + i)) ki v)) (400 + i) (upd (W (400 + i)) ki (W (200 + i) 3))) nk ns ne := by
  have key : ∀ U : Nat → Nat → Int32, zHd U (rset (rset U (300 + i) (upd (U (300 + i)) ki v)) (400 + i) (upd (U (400 + i)) ki (U (200 + i) 3))) i (nI (2 ^ ki)) (fun _ => v) 8 := fun U => by
    refine ⟨fun r h1 h2 => by rw [rset_n h2, rset_n h1], fun j => ?_⟩
    rw [rset_n (show 300 + i ≠ 400 + i by omega), rset_s, rset_s]
    have hb : ∀ j, j < 8 → zbt (nI (2 ^ ki)) j = decide (j = ki) := fun j hj => by
      rw [tb_zbt _ (by have := (shl_N ki (by omega)).2.1; omega) j (by omega), (shl_N ki (by omega)).2.2 j (by omega)]
    by_cases c : j = ki
    · subst c
      rw [pk_us, pk_us]
      exact ⟨fun _ => ⟨rfl, rfl⟩, fun q => absurd ⟨by omega, by rw [hb j (by omega), decide_eq_true rfl]⟩ q⟩
    · rw [pk_un c, pk_un c]
      refine ⟨fun q => ?_, fun _ => ⟨rfl, rfl⟩⟩
      rw [hb j q.1, decide_eq_false c] at q
      cases q.2
  refine h.hd hns hnk hi (fun j hj hb => ?_) (key V) (key W)
  rw [tb_zbt _ (by have := (shl_N ki (by omega)).2.1; omega) j (by omega), (shl_N ki (by omega)).2.2 j (by omega), decide_eq_true_eq] at hb
  subst hb
  exact ⟨hk, rfl, s, hs9, ev⟩
/-- tainted, on both sides -/
theorem zSM.tt (h : zSM N V W nk ns ne) (hns : ns ≤ 6) (hnk : nk ≤ 8) {i : Nat} (hi : i < ns) {b0 : Bool} {cs ms : Int32} (e0 : W (200 + i) 5 = zb b0) {c : Bool} (hc : c = zany (fun k => zbt ms k && decide (W (100 + k) 3 ≠ 0)) 8) (hV : V' = if c = true then rset V (200 + i) (z6 (V (200 + i)) (V (200 + i) 3) (V (200 + i) 4) 1) else V) (hW : mTt W W' i b0 ms 8) : zSM N V' W' nk ns ne := by
  obtain ⟨w1, w2, w3⟩ := hW
  have v1 : ∀ r, r ≠ 200 + i → V' r = V r := fun r hr => by
    rw [hV]
    split
    · rw [rset_n hr]
    · rfl
  have v2 : ∀ j, j ≤ 4 → V' (200 + i) j = V (200 + i) j := fun j hj => by
    rw [hV]
    split
    · rw [rset_s]
      have : j = 0 ∨ j = 1 ∨ j = 2 ∨ j = 3 ∨ j = 4 := by omega
      rcases this with rfl | rfl | rfl | rfl | rfl <;> rfl
    · rfl
  obtain ⟨a, hk, hs, eT, i1, i2, i3⟩ := h
  have v3 : V' (200 + i) 5 = W' (200 + i) 5 := by
    rw [w3, ← hc, hV]
    have e9 := (hs i hi).1 5 (by decide)
    cases c with
    | true => rw [if_pos rfl, rset_s, Bool.or_true]; rfl
    | false => rw [if_neg (by decide), Bool.or_false, e9, e0]
  refine ⟨by rw [v1 0 (by omega), v1 10 (by omega), w1 0 (by omega)]; exact a, fun k hk2 => ?_, fun q hq => ?_, eT.of (fun r y5 y9 => v1 r (by omega)) (fun e he => w1 (500 + e) (by omega)), by rw [v1 13 (by omega)]; exact i1, by rw [w1 7 (by omega)]; exact i2, by rw [v1 10 (by omega)]; exact i3⟩
  · rw [v1 (100 + k) (by omega), w1 (100 + k) (by omega)]; exact hk k hk2
  · obtain ⟨s1, s2, E, hE, s3, s4⟩ := hs q hq
    rw [v1 (300 + q) (by omega), v1 (400 + q) (by omega), w1 (300 + q) (by omega), w1 (400 + q) (by omega)]
    by_cases c : q = i
    · subst c
      refine ⟨fun j hj => ?_, by rw [v2 4 (by decide)]; exact s2, E, hE, by rw [v2 3 (by decide)]; exact s3, s4⟩
      by_cases j5 : j = 5
      · subst j5; exact v3
      · rw [v2 j (by omega), w2 j (by omega)]; exact s1 j hj
    · rw [v1 (200 + q) (by omega), w1 (200 + q) (by omega)]
      exact ⟨s1, s2, E, hE, s3, s4⟩
/-- rebuild, on both sides -/
theorem zSM.rb (h : zSM N V W nk ns ne) (hN : N < 2 ^ 20) (hnk : nk ≤ 8) (hns : ns ≤ 6) {i ki g : Nat} {x : Int32} {r q : Option Value} (hi : i < ns) (hk : ki < nk) (hg : g < 256) (hV : zRb V V' nk i ki (nI g) x r) (hW : mRb W W' nk ne ne' i ki g x q) : r = q ∧ zSM N V' W' nk ns ne' := by
  obtain ⟨V4, V5, V6, hd, hgd, v5, v6, v7, rfl⟩ := hV
  obtain ⟨t, W4, W6, W7, W8, b0, ht1, ht4, ht, md, w4, eb, w6, w7, w8, rfl, rfl⟩ := hW
  obtain ⟨k4, e12, hgv⟩ := h.dd hN hnk hi hg ht ht1 ht4 hd
  have h4 := (h.c k4).p w4
  have hl := mgr_lt (V := W) (si := i) (s := g)
  have f1 : V4 12 1 = nI (2 * mgr W i g) := by rw [e12]; rfl
  have f2 : V4 12 2 = nI (2 * (rmb (W 7) (mgv W i) t (mgr W i g) (mgr W i g)).1) := by rw [e12]; rfl
  have hval := h.val (t := t) k4 hgv (nI ki + 1)
  rw [nI_1] at hval
  have hsm := mgr_sm (s := g) h.ok hi
  have hb9 := (rmb_in (inv := W 7) (h := mgv W i) (t := t) (g := mgr W i g) (mgr W i g)).1
  obtain ⟨z1, z2⟩ := zth_N (inv := W 7) (iv := zinv) (set := nI (2 * (rmb (W 7) (mgv W i) t (mgr W i g) (mgr W i g)).1)) (b := fun k => (2 * (rmb (W 7) (mgv W i) t (mgr W i g) (mgr W i g)).1).testBit k) (gv := gvs (mgv W i)) h.2.2.2.2.2.1 (fun k hk => tb_zbt _ (by omega) k hk) (hsm.g (by omega) (fun k hk h1 => rmb_sub hl hl hk h1)) (x := ki + 1) (by omega)
  have v5' : V5 = rset (rset V4 (300 + i) (upd (V4 (300 + i)) ki (zth (W 7) (gvs (mgv W i)) (nI (2 * (rmb (W 7) (mgv W i) t (mgr W i g) (mgr W i g)).1)) (nI (ki + 1))))) (400 + i) (upd (V4 (400 + i)) ki (V4 (200 + i) 3)) := by
    rw [v5, f2, nI_1, hval]
  have h5 : zSM N V5 W6 nk ns ne := by
    rw [v5', w6]
    exact h4.h1 hns hnk hi hk z2 z1
  have e5 : W6 (200 + i) 5 = zb b0 := by rw [w6, rset_n (by omega), rset_n (by omega)]; exact eb
  have f1' : V5 12 1 = nI (2 * mgr W i g) := by rw [v5', rset_n (by omega), rset_n (by omega)]; exact f1
  have h6 : zSM N V6 W7 nk ns ne := by
    refine h5.tt hns hnk hi e5 (cs := 0) ?_ v6 w7
    rw [f1', shr_2 (by omega)]
    rw [zany_ext (f := fun k => zbt (nI (mgr W i g)) k && decide (W6 (100 + k) 3 ≠ 0)) (n := nk) 8 hnk (fun k h1 h2 => by
      show (zbt (nI (mgr W i g)) k && _) = false
      rw [tb_zbt _ (by omega) k (by omega), mgr_at h2]
      cases hz : zgd (W (300 + i)) (W (400 + i)) (W (200 + i) 3) k with
      | false => rfl
      | true => exact absurd (h.gv hi h2 hz).1 (by omega))]
    exact zany_congr nk fun k hk2 => by
      show (_ && decide (V5 (100 + k) 4 ≠ 0)) = (_ && decide (W6 (100 + k) 3 ≠ 0))
      rw [(h5.2.1 k hk2).1.2.2.2.1]
  have f1'' : V6 12 1 = nI (2 * mgr W i g) := by
    rw [v6]
    split
    · rw [rset_n (by omega)]; exact f1'
    · exact f1'
  rw [f1'', zbc_512 _ (by omega), zpop_2 _ hl] at v7 ⊢
  refine ⟨rfl, ?_⟩
  have a := h6.1
  have s := h6.cnt (W7 0 2) (W7 0 3) (W7 0 4) (W7 0 5 + nI (zpop 9 (mgr W i g)) * nI (zpop 9 (mgr W i g))) (W7 0 0)
  rw [a.1, a.2.1, a.2.2.1, a.2.2.2.1] at v7
  have w0 : W8 0 = W7 0 := w8.row (r := 0) (by decide) (by decide)
  have w9 := w8.r0 (z := zm6 (W7 0 0) (W7 0 1) (W7 0 2) (W7 0 3) (W7 0 4) (W7 0 5 + nI (zpop 9 (mgr W i g)) * nI (zpop 9 (mgr W i g)))) rfl
  rw [w0]
  exact s.en hns hnk (dy := W7 0 2) rfl v7 w9
end ZREB


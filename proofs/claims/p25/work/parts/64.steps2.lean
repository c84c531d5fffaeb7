
theorem rset_comm {V : Nat → Nat → Int32} {r q : Nat} {v w : Nat → Int32} (h : r ≠ q) : rset (rset V r v) q w = rset (rset V q w) r v := funext fun z => by
  by_cases e : z = q
  · subst e; rw [rset_s, rset_n h.symm, rset_s]
  · rw [rset_n e]
    by_cases e2 : z = r
    · subst e2; rw [rset_s, rset_s]
    · rw [rset_n e2, rset_n e2, rset_n e]
/-! luck and curves, on both sides -/
theorem zcat_N {f fc : Nat → Int32} {fi lk x : Int32} {t : Nat} (h1 : 1 ≤ t) (h4 : t ≤ 4) (hf : ∀ j, j < 4 → f j = zcvn fi (nI t) lk j) (hc : ∀ j, j < t → fc j = zcvn fi (nI t) lk j) : zcat f x 4 = zcN fc x t t := by
  have hz : ∀ j, t ≤ j → j < 4 → f j = 0 := fun j h2 h3 => by
    rw [hf j h3]
    unfold zcvn
    rw [if_neg (by omega), if_neg (nI_nlt h2 (by omega))]
  have he : ∀ j, j < t → f j = fc j := fun j hj => by rw [hf j (by omega), hc j hj]
  have z0 : zr97 (nI 0 * x + 0) = nI 0 := by
    rw [nI_0, Int32.zero_mul]; decide
  have : t = 1 ∨ t = 2 ∨ t = 3 ∨ t = 4 := by omega
  rcases this with rfl | rfl | rfl | rfl
  · show zr97 (zr97 (zr97 (zr97 (nI 0 * x + f 3) * x + f 2) * x + f 1) * x + f 0) = zr97 (nI 0 * x + fc 0)
    rw [hz 3 (by omega) (by omega), z0, hz 2 (by omega) (by omega), z0, hz 1 (by omega) (by omega), z0, he 0 (by omega)]
  · show zr97 (zr97 (zr97 (zr97 (nI 0 * x + f 3) * x + f 2) * x + f 1) * x + f 0) = zr97 (zr97 (nI 0 * x + fc 1) * x + fc 0)
    rw [hz 3 (by omega) (by omega), z0, hz 2 (by omega) (by omega), z0, he 1 (by omega), he 0 (by omega)]
  · show zr97 (zr97 (zr97 (zr97 (nI 0 * x + f 3) * x + f 2) * x + f 1) * x + f 0) = zr97 (zr97 (zr97 (nI 0 * x + fc 2) * x + fc 1) * x + fc 0)
    rw [hz 3 (by omega) (by omega), z0, he 2 (by omega), he 1 (by omega), he 0 (by omega)]
  · show zr97 (zr97 (zr97 (zr97 (nI 0 * x + f 3) * x + f 2) * x + f 1) * x + f 0) = zr97 (zr97 (zr97 (zr97 (nI 0 * x + fc 3) * x + fc 2) * x + fc 1) * x + fc 0)
    rw [he 3 (by omega), he 2 (by omega), he 1 (by omega), he 0 (by omega)]
theorem zlkn_end {x : Int32} {t : Nat} : ∀ n, t ≤ n → n < 2 ^ 20 → zlkn (nI t) x n = zlkn (nI t) x t
  | 0, h, _ => by rw [Nat.le_zero.mp h]
  | n + 1, h, hn => by
    by_cases e : t = n + 1
    · rw [e]
    · rw [← zlkn_end n (by omega) (by omega)]
      exact if_neg (fun q => nI_nlt (show t ≤ n by omega) (by omega) q.2)
theorem zlk_N {l : Nat} (h : l < 256) : zlk (nI l) = nI ((77 * l + 31) % 256) := by
  unfold zlk
  rw [show (77 : Int32) = nI 77 from rfl, show (31 : Int32) = nI 31 from rfl, show (256 : Int32) = nI 256 from rfl, pk_mul, nI_add]
  exact pk_rem (by omega) (by decide) (by decide)
theorem zdr_N {l : Nat} (h : l < 256) : zdr (nI l) = nI (l * 97 / 256) := by
  unfold zdr
  rw [show (97 : Int32) = nI 97 from rfl, show (256 : Int32) = nI 256 from rfl, pk_mul]
  exact pk_div (by omega) (by decide) (by decide)
theorem zlkn_lt {od : Int32} {l : Nat} (h : l < 256) : ∀ n, ∃ q, q < 256 ∧ zlkn od (nI l) n = nI q
  | 0 => ⟨l, h, rfl⟩
  | n + 1 => by
    obtain ⟨q, hq, e⟩ := zlkn_lt (od := od) h n
    unfold zlkn
    split
    · rw [e, zlk_N hq]; exact ⟨_, Nat.mod_lt _ (by decide), rfl⟩
    · exact ⟨q, hq, e⟩
theorem zcvn_lt {od : Int32} {l a : Nat} (h : l < 256) (ha : a < 97) (j : Nat) : ∃ c, c < 97 ∧ zcvn (nI a) od (nI l) j = nI c := by
  unfold zcvn
  split
  · exact ⟨a, ha, rfl⟩
  · split
    · obtain ⟨q, hq, e⟩ := zlkn_lt (od := od) h j
      rw [e, zlk_N hq, zdr_N (Nat.mod_lt _ (by decide))]
      have := Nat.mod_lt (77 * q + 31) (show 256 > 0 by decide)
      exact ⟨_, by omega, rfl⟩
    · exact ⟨0, by decide, nI_0.symm⟩
theorem zcN_lt {f : Nat → Int32} {x t : Nat} (hx : x < 97) (hf : ∀ j, j < t → ∃ c, c < 97 ∧ f j = nI c) : ∀ n, n ≤ t → ∃ c, c < 97 ∧ zcN f (nI x) t n = nI c
  | 0, _ => ⟨0, by decide, rfl⟩
  | n + 1, h => by
    obtain ⟨c, hc, e⟩ := zcN_lt hx hf n (by omega)
    obtain ⟨c2, hc2, e2⟩ := hf (t - 1 - n) (by omega)
    have hm : c * x ≤ 96 * 96 := Nat.mul_le_mul (by omega) (by omega)
    unfold zcN
    rw [e, e2, pk_mul, nI_add, zr97_N (by omega)]
    exact ⟨_, Nat.mod_lt _ (by decide), rfl⟩
section ZFRE
variable {N : Nat} {V V' W W' : Nat → Nat → Int32} {nk ns ne ne' : Nat}
/-- a secret's new epoch -/
theorem zSM.ep (h : zSM N V W nk ns ne) (hns : ns ≤ 6) (hnk : nk ≤ 8) {i : Nat} (hi : i < ns) : zSM (N + 1) (rset V (200 + i) (z6 (V (200 + i)) (V (200 + i) 3 + 1) (V (200 + i) 4) (V (200 + i) 5))) (rset W (200 + i) (zs6 (W (200 + i)) (W (200 + i) 3 + 1) (W (200 + i) 4) (W (200 + i) 5))) nk ns ne := by
  obtain ⟨a, hk, hs, eT, i1, i2, i3⟩ := h
  refine ⟨by rw [rset_n (by omega), rset_n (by omega), rset_n (by omega)]; exact a, fun k hk2 => ?_, fun q hq => ?_, eT.of (fun r y5 y9 => rset_n (by omega)) (fun e he => rset_n (by omega)), by rw [rset_n (by omega)]; exact i1, by rw [rset_n (by omega)]; exact i2, by rw [rset_n (by omega)]; exact i3⟩
  · rw [rset_n (show 100 + k ≠ 200 + i by omega), rset_n (show 100 + k ≠ 200 + i by omega)]; exact hk k hk2
  · obtain ⟨s1, s2, E, hE, s3, s4⟩ := hs q hq
    by_cases c : q = i
    · subst c
      rw [rset_s, rset_s, rset_n (show 300 + q ≠ 200 + q by omega), rset_n (show 300 + q ≠ 200 + q by omega), rset_n (show 400 + q ≠ 200 + q by omega), rset_n (show 400 + q ≠ 200 + q by omega)]
      refine ⟨fun j hj => ?_, s2, E + 1, by omega, ?_, fun k hk2 => ?_⟩
      · have : j = 0 ∨ j = 1 ∨ j = 2 ∨ j = 3 ∨ j = 4 ∨ j = 5 := by omega
        rcases this with rfl | rfl | rfl | rfl | rfl | rfl
        · exact s1 0 (by decide)
        · exact s1 1 (by decide)
        · exact s1 2 (by decide)
        · exact congrArg (· + 1) (s1 3 (by decide))
        · exact s1 4 (by decide)
        · exact s1 5 (by decide)
      · show V (200 + q) 3 + 1 = nI (E + 1)
        rw [s3, nI_1]
      · obtain ⟨t1, t2, t3⟩ := s4 k hk2
        refine ⟨t1, t2, t3.imp_right ?_⟩
        rintro ⟨u1, s, e, u2, u3, u4⟩
        exact ⟨u1, s, e, u2, by omega, u4⟩
    · rw [rset_n (show 200 + q ≠ 200 + i by omega), rset_n (show 200 + q ≠ 200 + i by omega), rset_n (show 300 + q ≠ 200 + i by omega), rset_n (show 300 + q ≠ 200 + i by omega), rset_n (show 400 + q ≠ 200 + i by omega), rset_n (show 400 + q ≠ 200 + i by omega)]
      exact ⟨s1, s2, E, by omega, s3, s4⟩
/-- new shares, on both sides -/
theorem zSM.hd (h : zSM N V W nk ns ne) (hns : ns ≤ 6) (hnk : nk ≤ 8) {i : Nat} (hi : i < ns) {cw : Int32} {nw mw : Nat → Int32} (hn : ∀ j, j < 8 → zbt cw j = true → j < nk ∧ nw j = mw j ∧ ∃ s, s < 97 ∧ nw j = nI s) (hV : zHd V V' i cw nw 8) (hW : zHd W W' i cw mw 8) : zSM N V' W' nk ns ne := by
  obtain ⟨a, hk, hs, eT, i1, i2, i3⟩ := h
  refine ⟨by rw [hV.1 0 (by omega) (by omega), hV.1 10 (by omega) (by omega), hW.1 0 (by omega) (by omega)]; exact a, fun k hk2 => ?_, fun q hq => ?_, eT.of (fun r y5 y9 => hV.1 r (by omega) (by omega)) (fun e he => hW.1 (500 + e) (by omega) (by omega)), by rw [hV.1 13 (by omega) (by omega)]; exact i1, by rw [hW.1 7 (by omega) (by omega)]; exact i2, by rw [hV.1 10 (by omega) (by omega)]; exact i3⟩
  · rw [hV.1 (100 + k) (by omega) (by omega), hW.1 (100 + k) (by omega) (by omega)]; exact hk k hk2
  · obtain ⟨s1, s2, E, hE, s3, s4⟩ := hs q hq
    rw [hV.1 (200 + q) (by omega) (by omega), hW.1 (200 + q) (by omega) (by omega)]
    refine ⟨s1, s2, E, hE, s3, fun k hk2 => ?_⟩
    by_cases c : q = i
    · subst c
      by_cases b : zbt cw k = true
      · obtain ⟨n1, n2, s, n3, n4⟩ := hn k hk2 b
        obtain ⟨v1, v2⟩ := (hV.2 k).1 ⟨hk2, b⟩
        obtain ⟨w1, w2⟩ := (hW.2 k).1 ⟨hk2, b⟩
        rw [v1, v2, w1, w2]
        exact ⟨n2, s1 3 (by decide), Or.inr ⟨n1, s, E, n3, Nat.le_refl _, n4, s3⟩⟩
      · obtain ⟨v1, v2⟩ := (hV.2 k).2 (fun z => b z.2)
        obtain ⟨w1, w2⟩ := (hW.2 k).2 (fun z => b z.2)
        rw [v1, v2, w1, w2]
        exact s4 k hk2
    · rw [hV.1 (300 + q) (by omega) (by omega), hV.1 (400 + q) (by omega) (by omega), hW.1 (300 + q) (by omega) (by omega), hW.1 (400 + q) (by omega) (by omega)]
      exact s4 k hk2
/-- luck drawn, on both sides -/
theorem zSM.dw (h : zSM N V W nk ns ne) {fi : Int32} {t : Nat} (ht4 : t ≤ 4) {W2 : Nat → Nat → Int32} (hW : mLk W W2 (zlkn (nI t) (W 0 1) t)) : zSM N (zDw V fi (nI t)) W2 nk ns ne := by
  have v : ∀ r, r ≠ 10 → r ≠ 11 → zDw V fi (nI t) r = V r := fun r h1 h2 => by unfold zDw; rw [rset_n h1, rset_n h2]
  have v10 : zDw V fi (nI t) 10 0 = zlkn (nI t) (V 10 0) 4 := by unfold zDw; rw [rset_s]
  obtain ⟨⟨b0, b1, b2, b3, b4, b5⟩, bo⟩ := hW
  obtain ⟨a1, a2, a3, a4, a5⟩ := h.1
  refine h.row0 (fun r _ h1 h2 => v r h1 h2) bo ⟨?_, ?_, ?_, ?_, ?_⟩ ?_
  · rw [v 0 (by decide) (by decide), b2]; exact a1
  · rw [v 0 (by decide) (by decide), b3]; exact a2
  · rw [v 0 (by decide) (by decide), b4]; exact a3
  · rw [v 0 (by decide) (by decide), b5]; exact a4
  · rw [v10, b1, ← a5]; exact zlkn_end 4 ht4 (by decide)
  · obtain ⟨l, hl, e⟩ := h.2.2.2.2.2.2
    rw [v10, e]
    exact zlkn_lt hl 4
theorem zDw_11 {fi od : Int32} {j : Nat} (hj : j < 4) : zDw V fi od 11 j = zcvn fi od (V 10 0) j := by
  unfold zDw
  rw [rset_n (by decide), rset_s]
  exact if_pos hj
/-- fresh, on both sides -/
theorem zSM.fr (h : zSM N V W nk ns ne) (hN : N < 2 ^ 20 - 1) (hnk : nk ≤ 8) (hns : ns ≤ 6) {i g t : Nat} {x : Int32} {r : Option Value} (hi : i < ns) (hg : g < 256) (ht : W (200 + i) 0 = nI t) (ht1 : 1 ≤ t) (ht4 : t ≤ 4) (hV : zFs V V' i (nI g &&& zset (zcur (V (400 + i)) (V (200 + i) 3)) 8) x r)
    {W2 W4 W5 : Nat → Nat → Int32} {fc : Nat → Int32} (w1 : mLk W W2 (zlkn (nI t) (W 0 1) t)) (w2 : ∀ j, j < t → fc j = zcvn 0 (nI t) (W 0 1) j) (w3 : W4 = rset W2 (200 + i) (zs6 (W2 (200 + i)) (W2 (200 + i) 3 + 1) (W2 (200 + i) 4) (W2 (200 + i) 5))) (w4 : zHd W4 W5 i (nI (mgr W i g)) (fun j => zr97 (W4 (300 + i) j + zcN fc (nI j + 1) t t)) 8) (w5 : mEn W5 W' ne ne' 1 x) : zSM (N + 1) V' W' nk ns ne' ∧ r = some (.int (nI (zpop 9 (zsetN (zst (W' (300 + i)) (W' (400 + i)) (W' (200 + i) 3)) 8)))) := by
  obtain ⟨V4, V5, v4, v5, v6, rfl⟩ := hV
  have ecw : nI g &&& zset (zcur (V (400 + i)) (V (200 + i) 3)) 8 = nI (mgr W i g) := by
    rw [Int32.and_comm, zset_congr (g := zgd (W (300 + i)) (W (400 + i)) (W (200 + i) 3)) 8 (fun k hk => h.cur (by omega) hi hk)]
    exact zand_N hg
  rw [ecw] at v5
  have hl := mgr_lt (V := W) (si := i) (s := g)
  rw [h.t hi ht] at v4
  have h2 := h.dw (fi := 0) ht4 w1
  have vs : zDw V 0 (nI t) (200 + i) = V (200 + i) := by unfold zDw; rw [rset_n (by omega), rset_n (by omega)]
  have h4 : zSM (N + 1) V4 W4 nk ns ne := by
    rw [v4, w3, ← vs]
    exact h2.ep hns hnk hi
  obtain ⟨l, hll, el⟩ := h.2.2.2.2.2.2
  have v11 : ∀ j, j < 4 → V4 11 j = zcvn 0 (nI t) (W 0 1) j := fun j hj => by
    rw [v4, rset_n (by omega), zDw_11 hj, h.1.2.2.2.2]
  have hcs : ∀ j, j < t → ∃ c, c < 97 ∧ fc j = nI c := fun j hj => by
    rw [w2 j hj, ← h.1.2.2.2.2, el]
    exact zcvn_lt hll (a := 0) (by decide) j
  have h5 : zSM (N + 1) V5 W5 nk ns ne := by
    refine h4.hd hns hnk hi (fun j hj hb => ?_) v5 w4
    rw [tb_zbt _ (by omega) j (by omega), mgr_at hj, Bool.and_eq_true] at hb
    obtain ⟨s1, -, E, hE, s3, s4⟩ := h.2.2.1 i hi
    obtain ⟨t1, t2, t3⟩ := s4 j hj
    have hc := hb.1
    unfold zgd at hc
    rw [Bool.and_eq_true, decide_eq_true_eq, decide_eq_true_eq] at hc
    rcases t3 with ⟨u1, -⟩ | ⟨hn, s, e, hs9, -, u1, -⟩
    · exact absurd (t1.symm.trans u1) hc.1
    · have e3 : V4 (300 + i) j = nI s := by rw [v4, rset_n (by omega)]; unfold zDw; rw [rset_n (by omega), rset_n (by omega)]; exact u1
      have e4 : W4 (300 + i) j = nI s := by rw [w3, rset_n (by omega), w1.2 (300 + i) (by omega), ← t1]; exact u1
      obtain ⟨c, hc9, ec⟩ := zcN_lt (x := j + 1) (by omega) hcs t (Nat.le_refl t)
      have e5 : zcat (V4 11) (nI j + 1) 4 = nI c := by rw [zcat_N ht1 ht4 v11 w2, nI_1]; exact ec
      refine ⟨hn, ?_, (s + c) % 97, Nat.mod_lt _ (by decide), ?_⟩
      · show zr97 (V4 (300 + i) j + zcat (V4 11) (nI j + 1) 4) = zr97 (W4 (300 + i) j + zcN fc (nI j + 1) t t)
        rw [e3, e4, zcat_N ht1 ht4 v11 w2]
      · show zr97 (V4 (300 + i) j + zcat (V4 11) (nI j + 1) 4) = _
        rw [e3, e5, nI_add, zr97_N (by omega)]
  have h6 := h5.en hns hnk (dy := V5 0 0) h5.1.1 v6 w5
  refine ⟨h6, ?_⟩
  rw [zset_congr (g := zst (W' (300 + i)) (W' (400 + i)) (W' (200 + i) 3)) 8 (fun k hk => h6.stl (by omega) hi hk), (zset_N _ 8 (by decide)).1, zbc_512 _ (by have := (zset_N (zst (W' (300 + i)) (W' (400 + i)) (W' (200 + i) 3)) 8 (by decide)).2; omega)]
end ZFRE



theorem zcN_zero (fc : Nat → Int32) (h : fc 0 = 0) (x : Int32) : zcN fc x 1 1 = 0 := by
  rw [zcN_1, h]
  decide
theorem zr97_v {v : Nat} (hv : v < 97) : zr97 (nI v + 0) = nI v := by
  rw [Int32.add_zero, zr97_N (by omega), Nat.mod_eq_of_lt hv]
def gFsR (W W' : Nat → Nat → Int32) (ne ne' i g : Nat) (x : Int32) : Prop := ∃ (W2 W4 W5 : Nat → Nat → Int32) (fc : Nat → Int32), mLk W W2 (zlkn (nI 1) (W 0 1) 1) ∧ (∀ j, j < 1 → fc j = zcvn 0 (nI 1) (W 0 1) j) ∧ W4 = rset W2 (200 + i) (zs6 (W2 (200 + i)) (W2 (200 + i) 3 + 1) (W2 (200 + i) 4) (W2 (200 + i) 5)) ∧ zHd W4 W5 i (nI (mgr W i g)) (fun j => zr97 (W4 (300 + i) j + zcN fc (nI j + 1) 1 1)) 8 ∧ mEn W5 W' ne ne' 1 x
theorem gFs (W : Nat → Nat → Int32) {ne : Nat} (h : ne ≤ 64) (i g : Nat) (x : Int32) : ∃ W' ne', ne' ≤ 64 ∧ gFsR W W' ne ne' i g x := by
  obtain ⟨W2, h2⟩ := gLk W (zlkn (nI 1) (W 0 1) 1)
  obtain ⟨W5, h5⟩ := gHd (rset W2 (200 + i) (zs6 (W2 (200 + i)) (W2 (200 + i) 3 + 1) (W2 (200 + i) 4) (W2 (200 + i) 5))) i (nI (mgr W i g)) (fun j => zr97 ((rset W2 (200 + i) (zs6 (W2 (200 + i)) (W2 (200 + i) 3 + 1) (W2 (200 + i) 4) (W2 (200 + i) 5))) (300 + i) j + zcN (fun j => zcvn 0 (nI 1) (W 0 1) j) (nI j + 1) 1 1)) 8
  obtain ⟨W', ne', h1, h6⟩ := gEn W5 h 1 x
  exact ⟨W', ne', h1, W2, _, W5, _, h2, fun _ _ => rfl, rfl, h5, h6⟩
section GP2
variable {W W' : Nat → Nat → Int32} {V : Nat → Nat → Int32} {N nk ns ne ne' : Nat}
theorem gP.fs (h : gP W nk ns) (hS : zSM N V W nk ns ne) (hN : N < 2 ^ 20 - 1) (hnk : nk ≤ 8) (hns : ns ≤ 6) {i g : Nat} {x : Int32} (hi : i < ns) (hF : gFsR W W' ne ne' i g x) : gP W' nk ns := by
  obtain ⟨W2, W4, W5, fc, w1, w2, w3, w4, w5⟩ := hF
  have a2 : ∀ r, r ≠ 0 → W2 r = W r := w1.2
  have a4 : ∀ r, r ≠ 0 → r ≠ 200 + i → W4 r = W r := fun r h0 h1 => by rw [w3, rset_n h1]; exact a2 r h0
  have e4 : W4 (200 + i) = zs6 (W (200 + i)) (W (200 + i) 3 + 1) (W (200 + i) 4) (W (200 + i) 5) := by rw [w3, rset_s, a2 (200 + i) (by omega)]
  have key : gP W5 nk ns := by
    refine ⟨fun k hk => ?_, fun s hs => ?_⟩
    · rw [w4.1 (100 + k) (by omega) (by omega), a4 (100 + k) (by omega) (by omega)]
      exact h.1 k hk
    · by_cases e : s = i
      · subst e
        obtain ⟨h1, h2, h3⟩ := h.2 s hs
        rw [w4.1 (200 + s) (by omega) (by omega), e4]
        refine ⟨h1, h2, fun q => ?_⟩
        obtain ⟨v, hv, h4⟩ := h3 q
        refine ⟨v, hv, fun k hk hz => ?_⟩
        obtain ⟨s1, -, E, hE, eE, hk9⟩ := hS.2.2.1 s hs
        have eW : W (200 + s) 3 = nI E := (s1 3 (by decide)).symm.trans eE
        have hq := w4.2 k
        rw [a4 (300 + s) (by omega) (by omega), a4 (400 + s) (by omega) (by omega)] at hq
        by_cases b : k < 8 ∧ zbt (nI (mgr W s g)) k = true
        · have hb := b.2
          rw [tb_zbt _ (by have := mgr_lt (V := W) (si := s) (s := g); omega) k (by omega), mgr_at hk, Bool.and_eq_true] at hb
          rw [(hq.1 b).1]
          show zr97 (W (300 + s) k + zcN fc (nI k + 1) 1 1) = nI v
          rw [zcN_zero fc ((w2 0 (by decide)).trans (if_pos rfl)), h4 k hk hb.1]
          exact zr97_v hv
        · exfalso
          have hb := (hq.2 b).2
          unfold zgd at hz
          rw [Bool.and_eq_true, decide_eq_true_eq, decide_eq_true_eq, hb] at hz
          have hz2 : W (400 + s) k = W (200 + s) 3 + 1 := hz.2
          obtain ⟨k1, k2, k3⟩ := hk9 k hk
          rw [eW, nI_1, ← k2] at hz2
          rcases k3 with ⟨-, k3⟩ | ⟨-, s9, e9, -, k4, -, k5⟩
          · rw [k3] at hz2
            exact zSM.n1 (E + 1) (by omega) hz2.symm
          · rw [k5] at hz2
            have := (nI_eq (by omega) (by omega)).mp hz2
            omega
      · rw [w4.1 (200 + s) (by omega) (by omega), w4.1 (300 + s) (by omega) (by omega), w4.1 (400 + s) (by omega) (by omega), a4 (200 + s) (by omega) (by omega), a4 (300 + s) (by omega) (by omega), a4 (400 + s) (by omega) (by omega)]
        exact h.2 s hs
  exact key.en hnk hns w5
theorem pop1 : ∀ m, m < 256 → zpop 9 m = 1 → ∃ p, p < 8 ∧ m = 2 ^ p := by decide +kernel
theorem bit1 : ∀ p, p < 8 → ∀ k, k < 9 → (2 * 2 ^ p).testBit k = decide (k = p + 1) := by decide +kernel
theorem bit2 : ∀ p, p < 8 → (2 ^ p).testBit p = true := by decide +kernel
theorem pw8 : ∀ p, p < 8 → 2 * 2 ^ p < 512 := by decide +kernel
theorem gP.rb (h : gP W nk ns) (hS : zSM N V W nk ns ne) (hnk : nk ≤ 8) (hns : ns ≤ 6) {i ki g : Nat} {x : Int32} {r : Option Value} (hi : i < ns) (hki : ki < nk) (hR : mRb W W' nk ne ne' i ki g x r) : gP W' nk ns := by
  obtain ⟨t, W4, W6, W7, W8, b0, t1, t4, ht, hgd, k4, hb0, w6, w7, w8, rfl, -⟩ := hR
  obtain ⟨h1, h2, h3⟩ := h.2 i hi
  obtain rfl : 1 = t := (nI_eq (by decide) (by omega)).mp (h1.symm.trans ht)
  have a4 : ∀ q, q ≠ 8 → q ≠ 9 → W4 q = W q := fun q h8 h9 => k4.r h8 h9
  have a6 : ∀ q, q ≠ 8 → q ≠ 9 → q ≠ 300 + i → q ≠ 400 + i → W6 q = W q := fun q h8 h9 y1 y2 => by rw [w6, rset_n y2, rset_n y1]; exact a4 q h8 h9
  have a7 : ∀ q, q ≠ 8 → q ≠ 9 → q ≠ 300 + i → q ≠ 400 + i → q ≠ 200 + i → W7 q = W q := fun q h8 h9 y1 y2 y3 => by rw [w7.1 q y3]; exact a6 q h8 h9 y1 y2
  have key : gP W7 nk ns := by
    refine ⟨fun k hk => ?_, fun s hs => ?_⟩
    · rw [a7 (100 + k) (by omega) (by omega) (by omega) (by omega) (by omega)]
      exact h.1 k hk
    · by_cases e : s = i
      · subst e
        have e6 : W6 (200 + s) = W (200 + s) := a6 (200 + s) (by omega) (by omega) (by omega) (by omega)
        refine ⟨by rw [w7.2.1 0 (by decide), e6]; exact h1, ⟨_, w7.2.2⟩, fun q => ?_⟩
        rw [w7.2.2] at q
        have q2 := (zb_0 _).mp q
        rw [Bool.or_eq_false_iff] at q2
        have q3 : W (200 + s) 5 = 0 := by
          rw [← a4 (200 + s) (by omega) (by omega), hb0, q2.1]
          rfl
        obtain ⟨v, hv, h4⟩ := h3 q3
        refine ⟨v, hv, fun k hk hz => ?_⟩
        rw [w7.1 (300 + s) (by omega), w7.1 (400 + s) (by omega), w7.2.1 3 (by decide), e6, w6] at hz
        rw [w7.1 (300 + s) (by omega), w6]
        rw [rset_s, rset_n (show 300 + s ≠ 400 + s by omega), rset_s, a4 (300 + s) (by omega) (by omega), a4 (400 + s) (by omega) (by omega), a4 (200 + s) (by omega) (by omega)] at hz
        rw [rset_n (show 300 + s ≠ 400 + s by omega), rset_s, a4 (300 + s) (by omega) (by omega)]
        by_cases ek : k = ki
        · subst ek
          show (if k = k then _ else _) = nI v
          rw [if_pos rfl]
          have hl := mgr_lt (V := W) (si := s) (s := g)
          have hg2 := hgd
          unfold rgd at hg2
          rw [Bool.and_eq_true, decide_eq_true_eq, decide_eq_true_eq] at hg2
          have hn : 1 ≤ zpop 9 (mgr W s g) := (nI_leI (by decide) (by have := zpop_le (mgr W s g) (by omega); omega)).mp hg2.1
          have hm0 := rmb_ne (inv := W 7) (h := mgv W s) hl (Nat.le_refl 1) hn
          obtain ⟨hml, hm⟩ := rmb_in (inv := W 7) (h := mgv W s) (t := 1) (g := mgr W s g) (mgr W s g)
          generalize (rmb (W 7) (mgv W s) 1 (mgr W s g) (mgr W s g)).1 = m at hm0 hml hm ⊢
          rcases hm with ⟨e0, -⟩ | ⟨-, hm, -⟩
          · exact absurd e0 hm0
          · obtain ⟨hsub, hp⟩ := rcd_sub hl (show m < 256 by omega) hm
            obtain ⟨p, hp8, rfl⟩ := pop1 m (by omega) hp
            have hin := hsub p hp8 (bit2 p hp8)
            rw [mgr_at hp8, Bool.and_eq_true] at hin
            have hlie : W (100 + p) 3 = 0 := by
              by_cases c : W (100 + p) 3 = 0
              · exact c
              · exfalso
                have hz9 : zany (fun k => zbt (nI (mgr W s g)) k && decide (W6 (100 + k) 3 ≠ 0)) 8 = true := zany_t (i := p) (by
                  show (zbt (nI (mgr W s g)) p && decide (W6 (100 + p) 3 ≠ 0)) = true
                  rw [tb_zbt _ (by omega) p (by omega), mgr_at hp8, hin.1, hin.2, a6 (100 + p) (by omega) (by omega) (by omega) (by omega), decide_eq_true c]
                  rfl) 8 hp8
                rw [hz9] at q2
                cases q2.2
            have hval : gvs (mgv W s) (p + 1) = nI v := by
              show mgv W s p = nI v
              unfold mgv
              rw [h4 p hp8 hin.1, hlie]
              exact zr97_v hv
            exact zth_1 (b := fun j => decide (j = p + 1)) hS.2.2.2.2.2.1 (fun j hj => by rw [tb_zbt _ (pw8 p hp8) j hj, bit1 p hp8 j hj]) (fun j hj hjp => of_decide_eq_true hjp) (by omega) (decide_eq_true rfl) hval hv (by omega)
        · show (if k = ki then _ else W (300 + s) k) = nI v
          rw [if_neg ek]
          refine h4 k hk ?_
          unfold zgd at hz ⊢
          have u1 : ∀ a, upd (W (300 + s)) ki a k = W (300 + s) k := fun a => if_neg ek
          have u2 : ∀ a, upd (W (400 + s)) ki a k = W (400 + s) k := fun a => if_neg ek
          rw [u1, u2] at hz
          exact hz
      · rw [a7 (200 + s) (by omega) (by omega) (by omega) (by omega) (by omega), a7 (300 + s) (by omega) (by omega) (by omega) (by omega) (by omega), a7 (400 + s) (by omega) (by omega) (by omega) (by omega) (by omega)]
        exact h.2 s hs
  exact (key.en hnk hns w8).r0 hnk hns _
end GP2



theorem zSM.wf {N : Nat} {V W : Nat → Nat → Int32} {nk ns ne : Nat} (h : zSM N V W nk ns ne) : ∀ si, si < ns → ∃ f, f < 4 ∧ W (200 + si) 4 = nI f := fun si hsi => by
  obtain ⟨s1, ⟨f, hf, e⟩, -⟩ := h.2.2.1 si hsi
  exact ⟨f, hf, (s1 4 (by decide)).symm.trans e⟩
theorem zb_l1 {v : Int32} {b : Bool} (h : v = zb b) (c : ¬ v = 0) : (1 : Int64) = v.toInt64 := by
  subst h
  rw [(zb_n0 _).mp c]
  decide
theorem zb_l0 {v : Int32} (c : v = 0) : (0 : Int64) = v.toInt64 := by
  subst c
  decide
theorem lTe.b {d : zD} {A : Nat → Nat} {D : Nat → UInt64} {V1 : Nat → Nat → Int32} {nk ns ho : Nat} {G G1 : zG} {P : Int32 → (Nat → Nat → Int32) → Int32 → Prop} {v : Int32} {n : Int64} {x : UInt64} {y : Value} (hn : n = v.toInt64) (hT : zT d A D V1 nk ns G1) (hF : tFr A nk ns G G1) (ho1 : ∀ r, tlive nk ns r → A r ≠ ho) (hP : P 0 V1 v) : lTe d A nk ns ho G P (some (.int 0)) (zu G1 ho (zob 9 [.long n, .double x, y])) := by
  subst hn
  exact lTe.r hT hF ho1 hP
theorem jAs {d : zD} {V V' : Nat → Nat → Int32} {nk ns : Nat} {B : Nat → Nat} {W : Nat → Nat → Int32} {N ne ec : Nat} {G G1 : zG} {r : Option Value} {kk v : Int32} (h : zSM N V W nk ns ne) {T P : Int32 → Prop} {TM : Int32 → Int32 → (Nat → Nat → Int32) → Prop} (hC : cAs V T P kk V' v) (hM : mAq d B nk ns ne ec W G TM r G1) (hE : ∀ (W' : Nat → Nat → Int32) (t b : Int32), zSM N V W' nk ns ne → TM t b W' → ((kk = 0 ∧ T v) ∨ (kk ≠ 0 ∧ P kk)) → kk = t ∧ (kk = 0 → v = b)) : zJ d N V' nk ns nk ns B ne G kk v r G1 := by
  obtain ⟨hK, hC⟩ := hC
  obtain ⟨b, W', rfl, t, m1, k1, m2⟩ := hM
  obtain ⟨e1, e2⟩ := hE W' _ b (h.m k1) t hC
  exact ⟨b, B, W', ne, ec, rfl, m1, mNw.rf, m2, ((h.c hK).m k1).up (by omega), e1, e2⟩

theorem zch_good (f : Nat → Bool) (p : Nat → Int32) : ∀ n, (zch f p n = 0 → ∀ k, k < n → f k = false) ∧ ∀ b, zch f p n = b + 1 → b < n ∧ f b = true ∧ ∀ k, k < n → f k = true → (p b).toInt ≤ (p k).toInt ∧ ((p k).toInt ≤ (p b).toInt → b ≤ k)
  | 0 => ⟨fun _ k hk => absurd hk (Nat.not_lt_zero k), fun b h => by cases h⟩
  | n + 1 => by
    obtain ⟨h1, h2⟩ := zch_good f p n
    by_cases c : f n = true ∧ (zch f p n = 0 ∨ p n < p (zch f p n - 1))
    · rw [zch_t c.1 c.2]
      refine ⟨fun e => absurd e (Nat.succ_ne_zero n), fun b e => ?_⟩
      obtain rfl : n = b := by omega
      refine ⟨Nat.lt_succ_self _, c.1, fun k hk hf => ?_⟩
      by_cases ek : k = n
      · subst ek; exact ⟨Int.le_refl _, fun _ => Nat.le_refl _⟩
      · rcases c.2 with c2 | c2
        · rw [h1 c2 k (by omega)] at hf; cases hf
        · cases hz : zch f p n with
          | zero => rw [h1 hz k (by omega)] at hf; cases hf
          | succ b =>
            rw [hz] at c2
            have c3 : (p n).toInt < (p b).toInt := Int32.lt_iff_toInt_lt.mp c2
            have := ((h2 b hz).2.2 k (by omega) hf).1
            exact ⟨by omega, fun q => by omega⟩
    · rw [show zch f p (n + 1) = zch f p n from if_neg c]
      refine ⟨fun e k hk => ?_, fun b e => ?_⟩
      · by_cases ek : k = n
        · subst ek
          cases hf : f k with
          | false => rfl
          | true => exact absurd ⟨hf, Or.inl e⟩ c
        · exact h1 e k (by omega)
      · obtain ⟨g1, g2, g3⟩ := h2 b e
        refine ⟨by omega, g2, fun k hk hf => ?_⟩
        by_cases ek : k = n
        · subst ek
          have c3 : ¬ p k < p b := fun q => c ⟨hf, Or.inr (by rw [e]; exact q)⟩
          have c4 : (p b).toInt ≤ (p k).toInt := Int32.le_iff_toInt_le.mp (Int32.not_lt.mp c3)
          exact ⟨c4, fun _ => by omega⟩
        · exact g3 k (by omega) hf
theorem zcd_good (f : Nat → Bool) (p : Nat → Int32) (nk : Nat) : ∀ i, i ≤ nk → (zcd f p nk i = 0 → ∀ k, nk - i ≤ k → k < nk → f k = false) ∧ ∀ b, zcd f p nk i = b + 1 → nk - i ≤ b ∧ b < nk ∧ f b = true ∧ ∀ k, nk - i ≤ k → k < nk → f k = true → (p b).toInt ≤ (p k).toInt ∧ ((p k).toInt ≤ (p b).toInt → b ≤ k)
  | 0, _ => ⟨fun _ k hk hk2 => by omega, fun b h => by cases h⟩
  | i + 1, hi => by
    obtain ⟨h1, h2⟩ := zcd_good f p nk i (by omega)
    by_cases c : f (nk - 1 - i) = true ∧ (zcd f p nk i = 0 ∨ ¬ p (zcd f p nk i - 1) < p (nk - 1 - i))
    · rw [zcd_t c.1 c.2]
      refine ⟨fun e => by omega, fun b e => ?_⟩
      obtain rfl : nk - 1 - i = b := by omega
      refine ⟨by omega, by omega, c.1, fun k hk hk2 hf => ?_⟩
      by_cases ek : k = nk - 1 - i
      · rw [ek]; exact ⟨Int.le_refl _, fun _ => Nat.le_refl _⟩
      · rcases c.2 with c2 | c2
        · rw [h1 c2 k (by omega) hk2] at hf; cases hf
        · cases hz : zcd f p nk i with
          | zero => rw [h1 hz k (by omega) hk2] at hf; cases hf
          | succ b =>
            rw [hz] at c2
            have c3 : (p (nk - 1 - i)).toInt ≤ (p b).toInt := Int32.le_iff_toInt_le.mp (Int32.not_lt.mp c2)
            have := ((h2 b hz).2.2.2 k (by omega) hk2 hf).1
            exact ⟨by omega, fun _ => by omega⟩
    · rw [show zcd f p nk (i + 1) = zcd f p nk i from if_neg c]
      refine ⟨fun e k hk hk2 => ?_, fun b e => ?_⟩
      · by_cases ek : k = nk - 1 - i
        · subst ek
          cases hf : f (nk - 1 - i) with
          | false => rfl
          | true => exact absurd ⟨hf, Or.inl e⟩ c
        · exact h1 e k (by omega) hk2
      · obtain ⟨g1, g2, g3, g4⟩ := h2 b e
        refine ⟨by omega, g2, g3, fun k hk hk2 hf => ?_⟩
        by_cases ek : k = nk - 1 - i
        · subst ek
          have c3 : p b < p (nk - 1 - i) := Decidable.not_not.mp fun q => c ⟨hf, Or.inr (by rw [e]; exact q)⟩
          have c4 : (p b).toInt < (p (nk - 1 - i)).toInt := Int32.lt_iff_toInt_lt.mp c3
          exact ⟨by omega, fun q => by omega⟩
        · exact g4 k (by omega) hk2 hf
theorem zch_zcd {f g : Nat → Bool} {p q : Nat → Int32} {nk : Nat} (hf : ∀ k, k < nk → f k = g k) (hp : ∀ k, k < nk → p k = q k) : zch f p nk = zcd g q nk nk := by
  obtain ⟨a1, a2⟩ := zch_good f p nk
  obtain ⟨b1, b2⟩ := zcd_good g q nk nk (Nat.le_refl _)
  rw [Nat.sub_self] at b1 b2
  cases ha : zch f p nk with
  | zero =>
    cases hb : zcd g q nk nk with
    | zero => rfl
    | succ b =>
      obtain ⟨-, c2, c3, -⟩ := b2 b hb
      rw [← hf b c2, a1 ha b c2] at c3; cases c3
  | succ a =>
    obtain ⟨c1, c2, c3⟩ := a2 a ha
    cases hb : zcd g q nk nk with
    | zero => rw [hf a c1, b1 hb a (Nat.zero_le _) c1] at c2; cases c2
    | succ b =>
      obtain ⟨-, d2, d3, d4⟩ := b2 b hb
      have x1 := c3 b d2 (by rw [hf b d2]; exact d3)
      have x2 := d4 a (Nat.zero_le _) c1 (by rw [← hf a c1]; exact c2)
      rw [hp a c1, hp b d2] at x1
      have : a = b := by omega
      rw [this]
theorem zpri_congr {set : Int32} {p q : Nat → Int32} : ∀ n, (∀ k, k < n → p k = q k) → zpri set p n = zpri set q n
  | 0, _ => rfl
  | n + 1, h => by
    unfold zpri
    rw [zpri_congr n (fun k hk => h k (by omega)), h n (by omega)]
theorem zcnt_put {f : Nat → Bool} {b : Nat} : ∀ n, zcnt (fun k => f k || decide (b = k + 1)) n ≤ zcnt f n + (if 1 ≤ b ∧ b ≤ n then 1 else 0)
  | 0 => Nat.zero_le _
  | n + 1 => by
    have ih := zcnt_put (f := f) (b := b) n
    show zcnt (fun k => f k || decide (b = k + 1)) n + (if (f n || decide (b = n + 1)) = true then 1 else 0) ≤ zcnt f n + (if f n = true then 1 else 0) + (if 1 ≤ b ∧ b ≤ n + 1 then 1 else 0)
    by_cases e : b = n + 1
    · rw [if_neg (show ¬ (1 ≤ b ∧ b ≤ n) by omega)] at ih
      rw [if_pos (show 1 ≤ b ∧ b ≤ n + 1 by omega)]
      split <;> split <;> omega
    · rw [decide_eq_false e, Bool.or_false]
      by_cases c : 1 ≤ b ∧ b ≤ n
      · rw [if_pos c] at ih
        rw [if_pos (show 1 ≤ b ∧ b ≤ n + 1 by omega)]
        omega
      · rw [if_neg c] at ih
        rw [if_neg (show ¬ (1 ≤ b ∧ b ≤ n + 1) by omega)]
        omega
theorem zcnt_put1 {f : Nat → Bool} {b n : Nat} (hb : b < n) (hf : f b = false) : zcnt (fun k => f k || decide (b + 1 = k + 1)) n = zcnt f n + 1 := by
  have h1 := zcnt_put (f := f) (b := b + 1) n
  rw [if_pos (show 1 ≤ b + 1 ∧ b + 1 ≤ n by omega)] at h1
  have h2 : zcnt f n ≤ zcnt (fun k => f k || decide (b + 1 = k + 1)) n := zcnt_mono n (fun k _ h => by rw [h]; rfl)
  by_cases e : zcnt (fun k => f k || decide (b + 1 = k + 1)) n = zcnt f n + 1
  · exact e
  · exfalso
    have h3 := zcnt_same (f := f) (g := fun k => f k || decide (b + 1 = k + 1)) n (fun k _ h => by rw [h]; rfl) (by omega) b hb
    rw [hf, decide_eq_true (p := b + 1 = b + 1) rfl] at h3
    cases h3
section ZBEQ
variable {h nk : Nat} {f : Nat → Bool} {p q : Nat → Int32}
theorem zbB_rbB (hk : nk ≤ 8) (hf : ∀ k, k < nk → h.testBit k = f k) (hp : ∀ k, k < nk → p k = q k) : ∀ n, zbB h nk p n = rbB f nk q n
  | 0 => rfl
  | n + 1 => by
    have ih := zbB_rbB hk hf hp n
    show zput (zbB h nk p n) (zch (fun k => (zlft h (zbB h nk p n)).testBit k) p nk) = zput (rbB f nk q n) (zcd (fun k => f k && !(rbB f nk q n).testBit k) q nk nk)
    rw [ih, zch_zcd (g := fun k => f k && !(rbB f nk q n).testBit k) (q := q) (fun k hk2 => by
      show (zlft h (rbB f nk q n)).testBit k = (f k && !(rbB f nk q n).testBit k)
      rw [zlft_at (by omega), hf k hk2]) hp]
theorem rbB_pop (hk : nk ≤ 8) : ∀ n, zcnt (fun k => (rbB f nk q n).testBit k) 9 ≤ n
  | 0 => by
    show zcnt (fun k => (0 : Nat).testBit k) 9 ≤ 0
    rw [zcnt_congr (g := fun _ => false) 9 (fun k _ => Nat.zero_testBit k)]
    decide
  | n + 1 => by
    have ih := rbB_pop hk n
    have hl := rbB_lt hk f q n
    have hc := zcd_le (fun k => f k && !(rbB f nk q n).testBit k) q nk nk (Nat.le_refl _)
    have e := zcnt_congr (f := fun k => (rbB f nk q (n + 1)).testBit k) (g := fun k => (rbB f nk q n).testBit k || decide (zcd (fun k => f k && !(rbB f nk q n).testBit k) q nk nk = k + 1)) 9 (fun k hk9 => zput_at hl (by omega) hk9)
    have e2 := zcnt_put (f := fun k => (rbB f nk q n).testBit k) (b := zcd (fun k => f k && !(rbB f nk q n).testBit k) q nk nk) 9
    have e3 : (if 1 ≤ zcd (fun k => f k && !(rbB f nk q n).testBit k) q nk nk ∧ zcd (fun k => f k && !(rbB f nk q n).testBit k) q nk nk ≤ 9 then 1 else 0) ≤ 1 := by split <;> omega
    rw [e]
    omega
theorem rbB_ok (hk : nk ≤ 8) : ∀ n, zany (rno f nk q) n = false → zcnt (fun k => (rbB f nk q n).testBit k) 9 = n ∧ ∀ k, k < 9 → (rbB f nk q n).testBit k = true → k < nk ∧ f k = true
  | 0, _ => ⟨Nat.le_zero.mp (rbB_pop hk 0), fun k _ h => by rw [show rbB f nk q 0 = 0 from rfl, Nat.zero_testBit] at h; cases h⟩
  | n + 1, h => by
    have h0 : (zany (rno f nk q) n || rno f nk q n) = false := h
    rw [Bool.or_eq_false_iff] at h0
    obtain ⟨i1, i2⟩ := rbB_ok hk n h0.1
    have hne : ¬ zcd (fun k => f k && !(rbB f nk q n).testBit k) q nk nk = 0 := of_decide_eq_false h0.2
    have hl := rbB_lt hk f q n
    obtain ⟨-, g2⟩ := zcd_good (fun k => f k && !(rbB f nk q n).testBit k) q nk nk (Nat.le_refl _)
    obtain ⟨b, eb⟩ : ∃ b, zcd (fun k => f k && !(rbB f nk q n).testBit k) q nk nk = b + 1 := ⟨zcd (fun k => f k && !(rbB f nk q n).testBit k) q nk nk - 1, by omega⟩
    obtain ⟨-, b2, b3, -⟩ := g2 b eb
    rw [Bool.and_eq_true, Bool.not_eq_true'] at b3
    have hat : ∀ k, k < 9 → (rbB f nk q (n + 1)).testBit k = ((rbB f nk q n).testBit k || decide (b + 1 = k + 1)) := fun k hk9 => by
      show (zput (rbB f nk q n) (zcd (fun k => f k && !(rbB f nk q n).testBit k) q nk nk)).testBit k = _
      rw [eb]
      exact zput_at hl (by omega) hk9
    refine ⟨?_, fun k hk9 h1 => ?_⟩
    · rw [zcnt_congr (g := fun k => (rbB f nk q n).testBit k || decide (b + 1 = k + 1)) 9 hat, zcnt_put1 (by omega) b3.2, i1]
    · rw [hat k hk9, Bool.or_eq_true, decide_eq_true_eq] at h1
      rcases h1 with h1 | h1
      · exact i2 k hk9 h1
      · obtain rfl : b = k := by omega
        exact ⟨b2, b3.1⟩
theorem zBo_rBo (hk : nk ≤ 8) (hh : h < 256) (hf : ∀ k, k < nk → h.testBit k = f k) (hn : ∀ k, nk ≤ k → k < 8 → h.testBit k = false) (hp : ∀ k, k < nk → p k = q k) {t : Nat} (ht : t ≤ 4) : zBo h nk t p = rBo f nk t q := by
  have p9 := zpop_le h (by omega)
  have e9 : zpop 9 h = zcnt (fun k => h.testBit k) 9 := by
    have := zpop_cnt (fun k => h.testBit k) 9 (by decide)
    rw [zsN_self h (by omega)] at this
    exact this
  have h8 : h.testBit 8 = false := Nat.testBit_lt_two_pow hh
  unfold zBo rBo
  by_cases c : t ≤ zpop 9 h
  · rw [if_pos (nI_le c (by omega))]
    have hno : zany (rno f nk q) t = false := by
      have key : ∀ n, n ≤ t → zany (rno f nk q) n = false := by
        intro n
        induction n with
        | zero => intro _; rfl
        | succ n ih =>
          intro hnt
          refine zany_f (ih (by omega)) (decide_eq_false fun e => ?_)
          have g1 := (zcd_good (fun k => f k && !(rbB f nk q n).testBit k) q nk nk (Nat.le_refl _)).1 e
          have hp := rbB_pop (f := f) (q := q) hk n
          have hm : zcnt (fun k => h.testBit k) 9 ≤ zcnt (fun k => (rbB f nk q n).testBit k) 9 := zcnt_mono 9 fun k hk9 hb => by
            by_cases kn : k < nk
            · have := g1 k (by omega) kn
              rw [← hf k kn, hb, Bool.true_and] at this
              cases hz : (rbB f nk q n).testBit k with
              | true => rfl
              | false => rw [hz] at this; cases this
            · by_cases k8 : k < 8
              · rw [hn k (by omega) k8] at hb; cases hb
              · obtain rfl : k = 8 := by omega
                rw [h8] at hb; cases hb
          omega
      exact key t (Nat.le_refl _)
    rw [hno, if_neg (by decide), zbB_rbB hk hf hp]
  · rw [if_neg (fun z => c ((nI_leI (by omega) (by omega)).mp z))]
    have hyes : zany (rno f nk q) t = true := by
      cases hz : zany (rno f nk q) t with
      | true => rfl
      | false =>
        exfalso
        obtain ⟨i1, i2⟩ := rbB_ok (f := f) (q := q) hk t hz
        have hm : zcnt (fun k => (rbB f nk q t).testBit k) 9 ≤ zcnt (fun k => h.testBit k) 9 := zcnt_mono 9 fun k hk9 hb => by
          obtain ⟨k1, k2⟩ := i2 k hk9 hb
          show h.testBit k = true
          rw [hf k k1]; exact k2
        omega
    rw [hyes, if_pos rfl]
end ZBEQ
theorem qSe_eq {N : Nat} {V W : Nat → Nat → Int32} {nk ns ne : Nat} (h : zSM N V W nk ns ne) (hN : N < 2 ^ 20) (hnk : nk ≤ 8) {si t q : Nat} (hsi : si < ns) (ht4 : t ≤ 4) (hq : q < 9) : qSe V nk si t (nI q) = mSeA W nk si t q := by
  obtain ⟨s1, -, E, hE, s3, s4⟩ := h.2.2.1 si hsi
  have hl := (zset_N (zcur (V (400 + si)) (V (200 + si) 3)) 8 (by decide)).2
  have hp : ∀ k, k < nk → V (100 + k) 2 = W (100 + k) 1 := fun k hk => (h.2.1 k hk).1.2.1
  have hb : zBo (zsetN (zcur (V (400 + si)) (V (200 + si) 3)) 8) nk t (fun k => V (100 + k) 2) = rBo (zgd (W (300 + si)) (W (400 + si)) (W (200 + si) 3)) nk t (fun k => W (100 + k) 1) := by
    refine zBo_rBo hnk (by omega) (fun k hk => ?_) (fun k h1 h2 => ?_) hp ht4
    · rw [zsN_at _ 8 (by decide) k (by omega), decide_eq_true (p := k < 8) (by omega), Bool.true_and]
      exact h.cur hN hsi (by omega)
    · rw [zsN_at _ 8 (by decide) k (by omega), decide_eq_true h2, Bool.true_and, h.cur hN hsi h2]
      cases hz : zgd (W (300 + si)) (W (400 + si)) (W (200 + si) 3) k with
      | false => rfl
      | true => exact absurd (h.gv hsi h2 hz).1 (by omega)
  have e4 : zset (zcur (V (400 + si)) (V (200 + si) 3)) 8 = zset (zgd (W (300 + si)) (W (400 + si)) (W (200 + si) 3)) 8 := zset_congr 8 fun k hk => h.cur hN hsi hk
  have e5 : zset (zstl (V (400 + si)) (V (200 + si) 3)) 8 = zset (zst (W (300 + si)) (W (400 + si)) (W (200 + si) 3)) 8 := zset_congr 8 fun k hk => h.stl hN hsi hk
  unfold qSe mSeA
  rw [hb, e4, e5, s1 0 (by decide), s1 1 (by decide), s1 2 (by decide), s1 3 (by decide), s1 4 (by decide), zpri_congr (q := fun k => W (100 + k) 1) nk hp]
  have : q = 0 ∨ q = 1 ∨ q = 2 ∨ q = 3 ∨ q = 4 ∨ q = 5 ∨ q = 6 ∨ q = 7 ∨ q = 8 := by omega
  rcases this with rfl | rfl | rfl | rfl | rfl | rfl | rfl | rfl | rfl <;> rfl

set_option maxHeartbeats 4000000 in
set_option maxRecDepth 100000 in
theorem m_La_ofSecretE {g0 : State} {d : zD} {l : Launch} {a0 : Array Value} (hs0 : zS0 d a0 g0) (hst : l.stackTraces = false) {G : zG} {A : Nat → Nat} {D : Nat → UInt64} {V : Nat → Nat → Int32} {nk ns : Nat} (hT : zT d A D V nk ns G) (hNc : zNc g0) {ho : Nat} (hO : zOut ho G) (ho1 : ∀ r, tlive nk ns r → A r ≠ ho) (x : Int32) (w : Int32) : zMetW g0 d l y_La_ofSecret c_La_ofSecret 5 ((Option.some Jvm.ClassFile.FieldType.int)) ([((0 : Nat), (11 : Nat), (14 : Nat), (27 : Nat)), ((0 : Nat), (11 : Nat), (18 : Nat), (19 : Nat))]) 16 5 116 [.ref (A 0), .int x, .int w, .ref ho] (G) (lTe d A nk ns ho G (cAs V (tSe V nk ns x w) (pSe ns x w))) (zNo) := by
  have hG_Tb := hT.tb
  have hnk : nk ≤ 8 := hT.2.1
  have hns : ns ≤ 6 := hT.2.2.1
  obtain ⟨on, ox, oy, hOe⟩ := id hO
  refine z_entryW hs0 hst (by decide) (Nat.le_of_ble_eq_true rfl) (fun p e s m args below meth c => ?_)
  refine z_aload_n 3 d_La_ofSecret_0 rfl rfl ?_
  refine z_aload_n 0 d_La_ofSecret_1 rfl rfl ?_
  refine z_iload_n 1 d_La_ofSecret_2 rfl rfl ?_
  refine z_iload_n 2 d_La_ofSecret_3 rfl rfl ?_
  refine z_callV ((m_Tb_ofSecretE hs0 hst hT x w)) ym_Tb_ofSecret qM_La_56 qI_Tb_ofSecret qV_Tb_Tb_ofSecret zc_Tb hT.tb d_La_ofSecret_4 rfl (Nat.le_of_ble_eq_true rfl) ⟨by decide, by decide⟩ ⟨Nat.le_of_ble_eq_true rfl, Nat.le_of_ble_eq_true rfl⟩ ?_ ?_
  · intro E G9 hx
    obtain ⟨hx, D4, V4, hT4, hK4, hF4⟩ := hx
    rcases hx with ⟨h1, rfl⟩ | ⟨k9, hk9, ex, h1, rfl⟩
    · refine z_catch [] ⟨0, 11, 14, 27⟩ [⟨0, 11, 18, 19⟩] rfl (fun _ h => nomatch h) rfl (by decide) qK_La_27 qT_IOE_IOE (fun q9 => ?_)
      refine z_astore (L' := [(4, _), (0, _), (1, _), (2, _), (3, _)]) d_La_ofSecret_14 (by decide) rfl ?_
      refine z_iconst (v := 1) d_La_ofSecret_16 (by decide) ?_
      exact z_iret rfl (by first | exact lTe.r hT3 hF3 ho1 ⟨hK3, Or.inl ⟨rfl, ht9⟩⟩ | exact lTe.x (by decide) hT4 hF4 hO ho1 ⟨hK4, Or.inr ⟨by decide, Or.inl ⟨h1, rfl⟩⟩⟩ | exact lTe.x (by decide) hT4 hF4 hO ho1 ⟨hK4, Or.inr ⟨by decide, Or.inr ⟨k9, hk9, ex, h1, rfl⟩⟩⟩) (by first | decide | omega) (by first | decide | omega) d_La_ofSecret_17
    · refine z_catch [⟨0, 11, 14, 27⟩] ⟨0, 11, 18, 19⟩ [] rfl (fun z hz => by
        simp only [List.mem_cons, List.not_mem_nil, or_false] at hz
        rcases hz with rfl
        · exact Or.inr ⟨by decide, _, qK_La_27, hNc.IAE_IOE⟩) rfl (by decide) qK_La_19 qT_IAE_IAE (fun q9 => ?_)
      refine z_astore (L' := [(4, _), (0, _), (1, _), (2, _), (3, _)]) d_La_ofSecret_18 (by decide) rfl ?_
      refine z_iconst (v := 2) d_La_ofSecret_20 (by decide) ?_
      exact z_iret rfl (by first | exact lTe.r hT3 hF3 ho1 ⟨hK3, Or.inl ⟨rfl, ht9⟩⟩ | exact lTe.x (by decide) hT4 hF4 hO ho1 ⟨hK4, Or.inr ⟨by decide, Or.inl ⟨h1, rfl⟩⟩⟩ | exact lTe.x (by decide) hT4 hF4 hO ho1 ⟨hK4, Or.inr ⟨by decide, Or.inr ⟨k9, hk9, ex, h1, rfl⟩⟩⟩) (by first | decide | omega) (by first | decide | omega) d_La_ofSecret_21
  intro r_4 G_4 hp_4
  obtain ⟨⟨v9, rfl, ht9⟩, D3, V3, hT3, hK3, hF3⟩ := hp_4
  have hG_Ou := hF3 _ _ hOe (fun r hr => (ho1 r hr).symm)
  refine z_i2l d_La_ofSecret_7 rfl ?_
  refine z_putN zc_Ou 0 (by decide) qFn_La_13 hG_Ou rfl rfl rfl (Nat.le_of_ble_eq_true rfl) d_La_ofSecret_8 ?_
  refine z_goto 22 d_La_ofSecret_11 (by decide) ?_
  refine z_iconst (v := 0) d_La_ofSecret_22 (by decide) ?_
  exact z_iret rfl (by first | exact lTe.r hT3 hF3 ho1 ⟨hK3, Or.inl ⟨rfl, ht9⟩⟩ | exact lTe.x (by decide) hT4 hF4 hO ho1 ⟨hK4, Or.inr ⟨by decide, Or.inl ⟨h1, rfl⟩⟩⟩ | exact lTe.x (by decide) hT4 hF4 hO ho1 ⟨hK4, Or.inr ⟨by decide, Or.inr ⟨k9, hk9, ex, h1, rfl⟩⟩⟩) (by first | decide | omega) (by first | decide | omega) d_La_ofSecret_23
theorem j_ofSecret {d : zD} {V V' : Nat → Nat → Int32} {nk ns : Nat} {B : Nat → Nat} {W : Nat → Nat → Int32} {N ne ec : Nat} {G G1 : zG} {r : Option Value} {kk v : Int32} (h : zSM N V W nk ns ne) (hN : N < 2 ^ 20) (hnk : nk ≤ 8) (hns : ns ≤ 6) {x w : Int32} (hC : cAs V (tSe V nk ns x w) (pSe ns x w) kk V' v) (hM : (mAq d B nk ns ne ec W G (rSe nk ns x w)) r G1) : zJ d N V' nk ns nk ns B ne G kk v r G1 := by
  refine jAs h hC hM (fun W' t b h1 hT hc => ?_)
  rcases hc with ⟨rfl, k, hk, rfl, a2, t, h1t, h4t, et, a3⟩ | ⟨hz, ⟨a1, rfl⟩ | ⟨k, hk, rfl, a2, rfl⟩⟩
  · rcases hT with ⟨c1, -⟩ | ⟨k9, hk9, ek, ⟨c2, -⟩ | ⟨q, hq, rfl, t0, t9, h91, h94, et9, rfl⟩⟩
    · exact absurd ⟨k, hk, rfl⟩ (zIx_2 (by omega) c1)
    · rw [a2] at c2; cases c2
    · obtain rfl : k9 = k := (nI_eq (by omega) (by omega)).mp ek.symm
      have e0 := (h1.2.2.1 k9 hk).1 0 (by decide)
      obtain rfl : t9 = t := (nI_eq (by omega) (by omega)).mp (et9.symm.trans (e0.symm.trans et))
      exact ⟨t0.symm, fun _ => a3.trans (qSe_eq h1 hN hnk hk h4t hq)⟩
  · rcases hT with ⟨-, rfl⟩ | ⟨k9, hk9, ek, -⟩
    · exact ⟨rfl, fun q => absurd q hz⟩
    · exact absurd ⟨k9, hk9, ek⟩ (zIx_1 (by omega) a1)
  · rcases hT with ⟨c1, -⟩ | ⟨k9, hk9, ek, ⟨-, rfl⟩ | ⟨q, hq, rfl, -⟩⟩
    · exact absurd ⟨k, hk, rfl⟩ (zIx_2 (by omega) c1)
    · exact ⟨rfl, fun q => absurd q hz⟩
    · exfalso
      have : zin (nI q) 0 8 = true := zin_ok (n := 8) (by omega) (by decide)
      rw [this] at a2; cases a2


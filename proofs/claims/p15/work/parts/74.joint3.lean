
theorem zSM.wf {N : Nat} {V W : Nat → Nat → Int32} {nk ns ne : Nat} (h : zSM N V W nk ns ne) : ∀ si, si < ns → ∃ f, f < 4 ∧ W (200 + si) 4 = nI f := fun si hsi => by
  obtain ⟨s1, ⟨f, hf, e⟩, -⟩ := h.2.2.1 si hsi
  exact ⟨f, hf, (s1 4 (by decide)).symm.trans e⟩
theorem zb_l1 {v : Int32} {b : Bool} (h : v = zb b) (c : ¬ v = 0) : (1 : Int64) = v.toInt64 := by
  subst h
  rw [(zb_n0 _).mp c]
  decide
theorem zb_l0 {v : Int32} (c : v = 0) : (0 : Int64) = v.toInt64 := by
  subst c
  decide
theorem lTe.b {d : zD} {A : Nat → Nat} {D : Nat → UInt64} {V1 : Nat → Nat → Int32} {nk ns ho : Nat} {G G1 : zG} {P : Int32 → (Nat → Nat → Int32) → Int32 → Prop} {v : Int32} {n : Int64} {x : UInt64} {y : Value} (hn : n = v.toInt64) (hT : zT d A D V1 nk ns G1) (hF : tFr A nk ns G G1) (ho1 : ∀ r, tlive nk ns r → A r ≠ ho) (hP : P 0 V1 v) : lTe d A nk ns ho G P (some (.int 0)) (zu G1 ho (zob 9 [.long n, .double x, y])) := by
  subst hn
  exact lTe.r hT hF ho1 hP
theorem jAs {d : zD} {V V' : Nat → Nat → Int32} {nk ns : Nat} {B : Nat → Nat} {W : Nat → Nat → Int32} {N ne ec : Nat} {G G1 : zG} {r : Option Value} {kk v : Int32} (h : zSM N V W nk ns ne) {T P : Int32 → Prop} {TM : Int32 → Int32 → (Nat → Nat → Int32) → Prop} (hC : cAs V T P kk V' v) (hM : mAq d B nk ns ne ec W G TM r G1) (hE : ∀ (W' : Nat → Nat → Int32) (t b : Int32), zSM N V W' nk ns ne → TM t b W' → ((kk = 0 ∧ T v) ∨ (kk ≠ 0 ∧ P kk)) → kk = t ∧ (kk = 0 → v = b)) : zJ d N V' nk ns nk ns B ne G kk v r G1 := by
  obtain ⟨hK, hC⟩ := hC
  obtain ⟨b, W', rfl, t, m1, k1, m2⟩ := hM
  obtain ⟨e1, e2⟩ := hE W' _ b (h.m k1) t hC
  exact ⟨b, B, W', ne, ec, rfl, m1, mNw.rf, m2, ((h.c hK).m k1).up (by omega), e1, e2⟩

theorem zSM_nd {N : Nat} {V W : Nat → Nat → Int32} {nk ns ne : Nat} (h : zSM N V W nk ns ne) : ∀ r, r ≤ 6 → ∀ k, k < 2 ^ (6 - r) → znode W ne (-1) 0 r k = V 9 (2 ^ (6 - r) + k)
  | 0, _, k, hk => by
    obtain ⟨e1, ⟨e2, t1, t2⟩, e3⟩ := h.2.2.2.1
    have hk2 : k < 64 := hk
    show (if nI k = -1 then (0 : Int32) else if k < ne then W (500 + k) 3 else 0) = V 9 (64 + k)
    rw [if_neg (zSM.n1 k (by omega)), t2 k hk2]
    by_cases c : k < ne
    · rw [if_pos c, if_pos c]; exact (e3 k c).2.2.2.symm
    · rw [if_neg c, if_neg c]
  | r + 1, hr, k, hk => by
    have e : 2 ^ (6 - r) = 2 * 2 ^ (6 - (r + 1)) := by rw [show 6 - r = 6 - (r + 1) + 1 by omega, Nat.pow_succ, Nat.mul_comm]
    have hp : 0 < 2 ^ (6 - (r + 1)) := Nat.pow_pos (by decide)
    have h32 : 2 ^ (6 - (r + 1)) ≤ 32 := by
      have : 2 ^ (6 - (r + 1)) ≤ 2 ^ 5 := Nat.pow_le_pow_right (by decide) (by omega)
      exact this
    have i1 := zSM_nd h r (by omega) (2 * k) (by omega)
    have i2 := zSM_nd h r (by omega) (2 * k + 1) (by omega)
    show zjo (znode W ne (-1) 0 r (2 * k)) (znode W ne (-1) 0 r (2 * k + 1)) = _
    rw [i1, i2, h.2.2.2.1.2.1.2.1 (2 ^ (6 - (r + 1)) + k) (by omega) (by omega), show 2 * (2 ^ (6 - (r + 1)) + k) = 2 ^ (6 - r) + 2 * k by omega]
    rfl
theorem zSM.nd {N : Nat} {V W : Nat → Nat → Int32} {nk ns ne : Nat} (h : zSM N V W nk ns ne) {r : Nat} (hr : r ≤ 6) {k : Nat} (hk : k < 2 ^ (6 - r)) : znode W ne (-1) 0 r k = V 9 (2 ^ (6 - r) + k) := zSM_nd h r hr k hk

theorem zsum_congr {f g : Nat → Int32} : ∀ n, (∀ k, k < n → f k = g k) → zsum f n = zsum g n
  | 0, _ => rfl
  | n + 1, h => by
    show zsum f n + f n = zsum g n + g n
    rw [zsum_congr n (fun k hk => h k (by omega)), h n (by omega)]
theorem qBk_eq {N : Nat} {V W : Nat → Nat → Int32} {nk ns ne : Nat} (h : zSM N V W nk ns ne) (hN : N < 2 ^ 20) (hnk : nk ≤ 8) {q : Nat} (hq : q < 12) : qBk V nk ns (nI q) = mBkA W nk ns ne q := by
  obtain ⟨a1, a2, a3, a4, a5⟩ := h.1
  have e9 : zcnt (fun k => decide (V (100 + k) 5 ≠ 0)) nk = zcnt (fun k => decide (W (100 + k) 4 ≠ 0)) nk := zcnt_congr nk fun k hk => by rw [(h.2.1 k hk).1.2.2.2.2]
  have e10 : zsum (fun i => zbc (zset (zcur (V (400 + i)) (V (200 + i) 3)) 8)) ns = zsum (fun i => nI (zpop 9 (zsetN (zgd (W (300 + i)) (W (400 + i)) (W (200 + i) 3)) 8))) ns := zsum_congr ns fun i hi => by
    rw [zset_congr (g := zgd (W (300 + i)) (W (400 + i)) (W (200 + i) 3)) 8 (fun k hk => h.cur hN hi hk), (zset_N _ 8 (by decide)).1]
    exact zbc_512 _ (by have := (zset_N (zgd (W (300 + i)) (W (400 + i)) (W (200 + i) 3)) 8 (by decide)).2; omega)
  have e11 : zsum (fun i => zbc (zset (zstl (V (400 + i)) (V (200 + i) 3)) 8)) ns = zsum (fun i => nI (zpop 9 (zsetN (zst (W (300 + i)) (W (400 + i)) (W (200 + i) 3)) 8))) ns := zsum_congr ns fun i hi => by
    rw [zset_congr (g := zst (W (300 + i)) (W (400 + i)) (W (200 + i) 3)) 8 (fun k hk => h.stl hN hi hk), (zset_N _ 8 (by decide)).1]
    exact zbc_512 _ (by have := (zset_N (zst (W (300 + i)) (W (400 + i)) (W (200 + i) 3)) 8 (by decide)).2; omega)
  have er : zrd 128 (V 9) 0 1 = znode W ne (-1) 0 6 0 := by
    rw [show (1 : Int32) = nI 1 from rfl, zrd_N (by decide) (by decide)]
    exact (h.nd (r := 6) (by decide) (k := 0) (by decide)).symm
  unfold qBk mBkA
  rw [a1, a2, a3, a4, a5, h.2.2.2.1.1, e9, e10, e11, er]
  have : q = 0 ∨ q = 1 ∨ q = 2 ∨ q = 3 ∨ q = 4 ∨ q = 5 ∨ q = 6 ∨ q = 7 ∨ q = 8 ∨ q = 9 ∨ q = 10 ∨ q = 11 := by omega
  rcases this with rfl | rfl | rfl | rfl | rfl | rfl | rfl | rfl | rfl | rfl | rfl | rfl <;> rfl

set_option maxHeartbeats 4000000 in
set_option maxRecDepth 100000 in
theorem m_La_bankE {g0 : State} {d : zD} {l : Launch} {a0 : Array Value} (hs0 : zS0 d a0 g0) (hst : l.stackTraces = false) {G : zG} {A : Nat → Nat} {D : Nat → UInt64} {V : Nat → Nat → Int32} {nk ns : Nat} (hT : zT d A D V nk ns G) (hNc : zNc g0) {ho : Nat} (hO : zOut ho G) (ho1 : ∀ r, tlive nk ns r → A r ≠ ho) (w : Int32) : zMetW g0 d l y_La_bank c_La_bank 4 ((Option.some Jvm.ClassFile.FieldType.int)) ([((0 : Nat), (10 : Nat), (13 : Nat), (19 : Nat))]) 14 5 116 [.ref (A 0), .int w, .ref ho] (G) (lTe d A nk ns ho G (cAs V (tBk V nk ns w) (pBk w))) (zNo) := by
  have hG_Tb := hT.tb
  have hnk : nk ≤ 8 := hT.2.1
  have hns : ns ≤ 6 := hT.2.2.1
  obtain ⟨on, ox, oy, hOe⟩ := id hO
  refine z_entryW hs0 hst (by decide) (Nat.le_of_ble_eq_true rfl) (fun p e s m args below meth c => ?_)
  refine z_aload_n 2 d_La_bank_0 rfl rfl ?_
  refine z_aload_n 0 d_La_bank_1 rfl rfl ?_
  refine z_iload_n 1 d_La_bank_2 rfl rfl ?_
  refine z_callV ((m_Tb_bankE hs0 hst hT w)) ym_Tb_bank qM_La_62 qI_Tb_bank qV_Tb_Tb_bank zc_Tb hT.tb d_La_bank_3 rfl (Nat.le_of_ble_eq_true rfl) ⟨by decide, by decide⟩ ⟨Nat.le_of_ble_eq_true rfl, Nat.le_of_ble_eq_true rfl⟩ ?_ ?_
  · intro E G9 hx
    obtain ⟨hx, D4, V4, hT4, hK4, hF4⟩ := hx
    obtain ⟨h1, rfl⟩ := hx
    skip
    · refine z_catch [] ⟨0, 10, 13, 19⟩ [] rfl (fun _ h => nomatch h) rfl (by decide) qK_La_19 qT_IAE_IAE (fun q9 => ?_)
      refine z_astore_n (L' := [(3, _), (0, _), (1, _), (2, _)]) d_La_bank_13 rfl (by decide) rfl ?_
      refine z_iconst (v := 1) d_La_bank_14 (by decide) ?_
      exact z_iret rfl (by first | exact lTe.r hT3 hF3 ho1 ⟨hK3, Or.inl ⟨rfl, ht9⟩⟩ | exact lTe.x (by decide) hT4 hF4 hO ho1 ⟨hK4, Or.inr ⟨by decide, ⟨h1, rfl⟩⟩⟩) (by first | decide | omega) (by first | decide | omega) d_La_bank_15
  intro r_3 G_3 hp_3
  obtain ⟨⟨v9, rfl, ht9⟩, D3, V3, hT3, hK3, hF3⟩ := hp_3
  have hG_Ou := hF3 _ _ hOe (fun r hr => (ho1 r hr).symm)
  refine z_i2l d_La_bank_6 rfl ?_
  refine z_putN zc_Ou 0 (by decide) qFn_La_13 hG_Ou rfl rfl rfl (Nat.le_of_ble_eq_true rfl) d_La_bank_7 ?_
  refine z_goto 16 d_La_bank_10 (by decide) ?_
  refine z_iconst (v := 0) d_La_bank_16 (by decide) ?_
  exact z_iret rfl (by first | exact lTe.r hT3 hF3 ho1 ⟨hK3, Or.inl ⟨rfl, ht9⟩⟩ | exact lTe.x (by decide) hT4 hF4 hO ho1 ⟨hK4, Or.inr ⟨by decide, ⟨h1, rfl⟩⟩⟩) (by first | decide | omega) (by first | decide | omega) d_La_bank_17
theorem j_bank {d : zD} {V V' : Nat → Nat → Int32} {nk ns : Nat} {B : Nat → Nat} {W : Nat → Nat → Int32} {N ne ec : Nat} {G G1 : zG} {r : Option Value} {kk v : Int32} (h : zSM N V W nk ns ne) (hN : N < 2 ^ 20) (hnk : nk ≤ 8) (hns : ns ≤ 6) {w : Int32} (hC : cAs V (tBk V nk ns w) (pBk w) kk V' v) (hM : (mAq d B nk ns ne ec W G (rBk nk ns ne w)) r G1) : zJ d N V' nk ns nk ns B ne G kk v r G1 := by
  refine jAs h hC hM (fun W' t b h1 hT hc => ?_)
  rcases hc with ⟨rfl, a1, a2⟩ | ⟨hz, a1, rfl⟩
  · rcases hT with ⟨c1, -⟩ | ⟨q, hq, rfl, t0, rfl⟩
    · rw [a1] at c1; cases c1
    · exact ⟨t0.symm, fun _ => a2.trans (qBk_eq h1 hN hnk hq)⟩
  · rcases hT with ⟨-, rfl⟩ | ⟨q, hq, rfl, -⟩
    · exact ⟨rfl, fun q => absurd q hz⟩
    · exfalso
      have : zin (nI q) 0 11 = true := zin_ok (n := 11) (by omega) (by decide)
      rw [this] at a1; cases a1


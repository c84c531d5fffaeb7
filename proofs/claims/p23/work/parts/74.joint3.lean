
theorem zSM.wf {N : Nat} {V W : Nat → Nat → Int32} {nk ns ne : Nat} (h : zSM N V W nk ns ne) : ∀ si, si < ns → ∃ f, f < 4 ∧ W (200 + si) 4 = nI f := fun si hsi => by
  obtain ⟨s1, ⟨f, hf, e⟩, -⟩ := h.2.2.1 si hsi
  exact ⟨f, hf, (s1 4 (by decide)).symm.trans e⟩
theorem zb_l1 {v : Int32} {b : Bool} (h : v = zb b) (c : ¬ v = 0) : (1 : Int64) = v.toInt64 := by
  subst h
  rw [(zb_n0 _).mp c]
  decide
theorem zb_l0 {v : Int32} (c : v = 0) : (0 : Int64) = v.toInt64 := by
  subst c
  decide
theorem lTe.b {d : zD} {A : Nat → Nat} {D : Nat → UInt64} {V1 : Nat → Nat → Int32} {nk ns ho : Nat} {G G1 : zG} {P : Int32 → (Nat → Nat → Int32) → Int32 → Prop} {v : Int32} {n : Int64} {x : UInt64} {y : Value} (hn : n = v.toInt64) (hT : zT d A D V1 nk ns G1) (hF : tFr A nk ns G G1) (ho1 : ∀ r, tlive nk ns r → A r ≠ ho) (hP : P 0 V1 v) : lTe d A nk ns ho G P (some (.int 0)) (zu G1 ho (zob 9 [.long n, .double x, y])) := by
  subst hn
  exact lTe.r hT hF ho1 hP
theorem jAs {d : zD} {V V' : Nat → Nat → Int32} {nk ns : Nat} {B : Nat → Nat} {W : Nat → Nat → Int32} {N ne ec : Nat} {G G1 : zG} {r : Option Value} {kk v : Int32} (h : zSM N V W nk ns ne) {T P : Int32 → Prop} {TM : Int32 → Int32 → (Nat → Nat → Int32) → Prop} (hC : cAs V T P kk V' v) (hM : mAq d B nk ns ne ec W G TM r G1) (hE : ∀ (W' : Nat → Nat → Int32) (t b : Int32), zSM N V W' nk ns ne → TM t b W' → ((kk = 0 ∧ T v) ∨ (kk ≠ 0 ∧ P kk)) → kk = t ∧ (kk = 0 → v = b)) : zJ d N V' nk ns nk ns B ne G kk v r G1 := by
  obtain ⟨hK, hC⟩ := hC
  obtain ⟨b, W', rfl, t, m1, k1, m2⟩ := hM
  obtain ⟨e1, e2⟩ := hE W' _ b (h.m k1) t hC
  exact ⟨b, B, W', ne, ec, rfl, m1, mNw.rf, m2, ((h.c hK).m k1).up (by omega), e1, e2⟩

theorem zSM_nd {N : Nat} {V W : Nat → Nat → Int32} {nk ns ne : Nat} (h : zSM N V W nk ns ne) : ∀ r, r ≤ 6 → ∀ k, k < 2 ^ (6 - r) → znode W ne (-1) 0 r k = V 9 (2 ^ (6 - r) + k)
  | 0, _, k, hk => by
    obtain ⟨e1, ⟨e2, t1, t2⟩, e3⟩ := h.2.2.2.1
    have hk2 : k < 64 := hk
    show (if nI k = -1 then (0 : Int32) else if k < ne then W (500 + k) 3 else 0) = V 9 (64 + k)
    rw [if_neg (zSM.n1 k (by omega)), t2 k hk2]
    by_cases c : k < ne
    · rw [if_pos c, if_pos c]; exact (e3 k c).2.2.2.symm
    · rw [if_neg c, if_neg c]
  | r + 1, hr, k, hk => by
    have e : 2 ^ (6 - r) = 2 * 2 ^ (6 - (r + 1)) := by rw [show 6 - r = 6 - (r + 1) + 1 by omega, Nat.pow_succ, Nat.mul_comm]
    have hp : 0 < 2 ^ (6 - (r + 1)) := Nat.pow_pos (by decide)
    have h32 : 2 ^ (6 - (r + 1)) ≤ 32 := by
      have : 2 ^ (6 - (r + 1)) ≤ 2 ^ 5 := Nat.pow_le_pow_right (by decide) (by omega)
      exact this
    have i1 := zSM_nd h r (by omega) (2 * k) (by omega)
    have i2 := zSM_nd h r (by omega) (2 * k + 1) (by omega)
    show zjo (znode W ne (-1) 0 r (2 * k)) (znode W ne (-1) 0 r (2 * k + 1)) = _
    rw [i1, i2, h.2.2.2.1.2.1.2.1 (2 ^ (6 - (r + 1)) + k) (by omega) (by omega), show 2 * (2 ^ (6 - (r + 1)) + k) = 2 ^ (6 - r) + 2 * k by omega]
    rfl
theorem zSM.nd {N : Nat} {V W : Nat → Nat → Int32} {nk ns ne : Nat} (h : zSM N V W nk ns ne) {r : Nat} (hr : r ≤ 6) {k : Nat} (hk : k < 2 ^ (6 - r)) : znode W ne (-1) 0 r k = V 9 (2 ^ (6 - r) + k) := zSM_nd h r hr k hk

theorem nd_off (W : Nat → Nat → Int32) (ne : Nat) (lf : Int32) {e : Nat} (he : e < 64) : ∀ r, r ≤ 6 → ∀ k, k < 2 ^ (6 - r) → e / 2 ^ r ≠ k → znode W ne (nI e) lf r k = znode W ne (-1) 0 r k
  | 0, _, k, hk, h => by
    have hk2 : k < 64 := hk
    rw [Nat.pow_zero, Nat.div_one] at h
    show (if nI k = nI e then lf else if k < ne then W (500 + k) 3 else 0) = (if nI k = -1 then (0 : Int32) else if k < ne then W (500 + k) 3 else 0)
    rw [if_neg (fun q => h ((nI_eq (by omega) (by omega)).mp q).symm), if_neg (zSM.n1 k (by omega))]
  | r + 1, hr, k, hk, h => by
    have e1 : 2 ^ (6 - r) = 2 * 2 ^ (6 - (r + 1)) := by rw [show 6 - r = 6 - (r + 1) + 1 by omega, Nat.pow_succ, Nat.mul_comm]
    have d := ndiv2 e (by omega) r (by omega)
    show zr9 (31 * znode W ne (nI e) lf r (2 * k) + 17 * znode W ne (nI e) lf r (2 * k + 1) + 5) = zr9 (31 * znode W ne (-1) 0 r (2 * k) + 17 * znode W ne (-1) 0 r (2 * k + 1) + 5)
    rw [nd_off W ne lf he r (by omega) (2 * k) (by omega) (by omega), nd_off W ne lf he r (by omega) (2 * k + 1) (by omega) (by omega)]
theorem zbs_k : ∀ e, e < 64 → ∀ n, n < 6 → zbt (nI e) n = decide (e / 2 ^ n % 2 = 1) ∧ ((64 + nI e) >>> (nI n &&& 31)) ^^^ 1 = nI (2 ^ (6 - n) + (if e / 2 ^ n % 2 = 0 then e / 2 ^ n + 1 else e / 2 ^ n - 1)) ∧ e / 2 ^ n < 2 ^ (6 - n) ∧ 2 ^ (6 - n) ≤ 64 ∧ (if e / 2 ^ n % 2 = 0 then e / 2 ^ n + 1 else e / 2 ^ n - 1) < 2 ^ (6 - n) := by decide +kernel
theorem zSM.bs {N : Nat} {V W : Nat → Nat → Int32} {nk ns ne : Nat} (h : zSM N V W nk ns ne) {e n : Nat} (he : e < 64) (hn : n < 6) : zbs (V 9) (nI e) (nI n) = znode W ne (-1) 0 n (if e / 2 ^ n % 2 = 0 then e / 2 ^ n + 1 else e / 2 ^ n - 1) := by
  obtain ⟨-, k2, k3, k4, k5⟩ := zbs_k e he n hn
  unfold zbs
  rw [k2, zrd_N (by omega) (by decide)]
  exact (h.nd (by omega) k5).symm
theorem zSM.ct {N : Nat} {V W : Nat → Nat → Int32} {nk ns ne : Nat} (h : zSM N V W nk ns ne) {e : Nat} (he : e < 64) (lf : Int32) : ∀ r, r ≤ 6 → zctr (V 9) (nI e) lf r = znode W ne (nI e) lf r (e / 2 ^ r)
  | 0, _ => by
    rw [Nat.pow_zero, Nat.div_one]
    exact (if_pos rfl).symm
  | r + 1, hr => by
    have ih := zSM.ct h he lf r (by omega)
    obtain ⟨k1, -, k3, k4, k5⟩ := zbs_k e he r (by omega)
    have d := ndiv2 e (by omega) r (by omega)
    have hb := h.bs he (n := r) (by omega)
    show (if zbt (nI e) r = true then zjo (zbs (V 9) (nI e) (nI r)) (zctr (V 9) (nI e) lf r) else zjo (zctr (V 9) (nI e) lf r) (zbs (V 9) (nI e) (nI r))) = zjo (znode W ne (nI e) lf r (2 * (e / 2 ^ (r + 1)))) (znode W ne (nI e) lf r (2 * (e / 2 ^ (r + 1)) + 1))
    rw [k1, ih, hb, ← d]
    by_cases c : e / 2 ^ r % 2 = 1
    · have c0 : ¬ e / 2 ^ r % 2 = 0 := by omega
      rw [if_neg c0] at k5
      rw [decide_eq_true c, if_pos rfl, if_neg c0, show 2 * (e / 2 ^ r / 2) + 1 = e / 2 ^ r by omega, show 2 * (e / 2 ^ r / 2) = e / 2 ^ r - 1 by omega, nd_off W ne lf he r (by omega) (e / 2 ^ r - 1) k5 (by omega)]
    · have c0 : e / 2 ^ r % 2 = 0 := by omega
      rw [if_pos c0] at k5
      rw [decide_eq_false c, if_neg (by decide), if_pos c0, show 2 * (e / 2 ^ r / 2) = e / 2 ^ r by omega, nd_off W ne lf he r (by omega) (e / 2 ^ r + 1) k5 (by omega)]

set_option maxHeartbeats 4000000 in
set_option maxRecDepth 100000 in
theorem m_La_provesE {g0 : State} {d : zD} {l : Launch} {a0 : Array Value} (hs0 : zS0 d a0 g0) (hst : l.stackTraces = false) {G : zG} {A : Nat → Nat} {D : Nat → UInt64} {V : Nat → Nat → Int32} {nk ns : Nat} (hT : zT d A D V nk ns G) (hNc : zNc g0) {ho : Nat} (hO : zOut ho G) (ho1 : ∀ r, tlive nk ns r → A r ≠ ho) (x : Int32) (w : Int32) : zMetW g0 d l y_La_proves c_La_proves 5 ((Option.some Jvm.ClassFile.FieldType.int)) ([((0 : Nat), (18 : Nat), (21 : Nat), (27 : Nat)), ((0 : Nat), (18 : Nat), (25 : Nat), (19 : Nat))]) 10 5 116 [.ref (A 0), .int x, .int w, .ref ho] (G) (lTe d A nk ns ho G (cAs V (tPv V x w) (pPv V x w))) (zNo) := by
  have hG_Tb := hT.tb
  have hnk : nk ≤ 8 := hT.2.1
  have hns : ns ≤ 6 := hT.2.2.1
  obtain ⟨on, ox, oy, hOe⟩ := id hO
  refine z_entryW hs0 hst (by decide) (Nat.le_of_ble_eq_true rfl) (fun p e s m args below meth c => ?_)
  refine z_aload_n 3 d_La_proves_0 rfl rfl ?_
  refine z_aload_n 0 d_La_proves_1 rfl rfl ?_
  refine z_iload_n 1 d_La_proves_2 rfl rfl ?_
  refine z_iload_n 2 d_La_proves_3 rfl rfl ?_
  refine z_callV ((m_Tb_provesE hs0 hst hT x w)) ym_Tb_proves qM_La_97 qI_Tb_proves qV_Tb_Tb_proves zc_Tb hT.tb d_La_proves_4 rfl (Nat.le_of_ble_eq_true rfl) ⟨by decide, by decide⟩ ⟨Nat.le_of_ble_eq_true rfl, Nat.le_of_ble_eq_true rfl⟩ ?_ ?_
  · intro E G9 hx
    obtain ⟨hx, D4, V4, hT4, hK4, hF4⟩ := hx
    rcases hx with ⟨h1, rfl⟩ | ⟨h0, h1, rfl⟩
    · refine z_catch [] ⟨0, 18, 21, 27⟩ [⟨0, 18, 25, 19⟩] rfl (fun _ h => nomatch h) rfl (by decide) qK_La_27 qT_IOE_IOE (fun q9 => ?_)
      refine z_astore (L' := [(4, _), (0, _), (1, _), (2, _), (3, _)]) d_La_proves_21 (by decide) rfl ?_
      refine z_iconst (v := 1) d_La_proves_23 (by decide) ?_
      exact z_iret rfl (by first | exact lTe.b e9 hT3 hF3 ho1 ⟨hK3, Or.inl ⟨rfl, ht9⟩⟩ | exact lTe.x (by decide) hT4 hF4 hO ho1 ⟨hK4, Or.inr ⟨by decide, Or.inl ⟨h1, rfl⟩⟩⟩ | exact lTe.x (by decide) hT4 hF4 hO ho1 ⟨hK4, Or.inr ⟨by decide, Or.inr ⟨h0, h1, rfl⟩⟩⟩) (by first | decide | omega) (by first | decide | omega) d_La_proves_24
    · refine z_catch [⟨0, 18, 21, 27⟩] ⟨0, 18, 25, 19⟩ [] rfl (fun z hz => by
        simp only [List.mem_cons, List.not_mem_nil, or_false] at hz
        rcases hz with rfl
        · exact Or.inr ⟨by decide, _, qK_La_27, hNc.IAE_IOE⟩) rfl (by decide) qK_La_19 qT_IAE_IAE (fun q9 => ?_)
      refine z_astore (L' := [(4, _), (0, _), (1, _), (2, _), (3, _)]) d_La_proves_25 (by decide) rfl ?_
      refine z_iconst (v := 2) d_La_proves_27 (by decide) ?_
      exact z_iret rfl (by first | exact lTe.b e9 hT3 hF3 ho1 ⟨hK3, Or.inl ⟨rfl, ht9⟩⟩ | exact lTe.x (by decide) hT4 hF4 hO ho1 ⟨hK4, Or.inr ⟨by decide, Or.inl ⟨h1, rfl⟩⟩⟩ | exact lTe.x (by decide) hT4 hF4 hO ho1 ⟨hK4, Or.inr ⟨by decide, Or.inr ⟨h0, h1, rfl⟩⟩⟩) (by first | decide | omega) (by first | decide | omega) d_La_proves_28
  intro r_4 G_4 hp_4
  obtain ⟨⟨v9, rfl, ht9⟩, D3, V3, hT3, hK3, hF3⟩ := hp_4
  have hG_Ou := hF3 _ _ hOe (fun r hr => (ho1 r hr).symm)
  refine z_if_eq 14 d_La_proves_7 (by decide) (fun c_7 => ?_) (fun c_7 => ?_)
  · skip
    have e9 := zb_l0 c_7
    refine z_lconst (v := 0) d_La_proves_14 (by decide) ?_
    refine z_putN zc_Ou 0 (by decide) qFn_La_13 hG_Ou rfl rfl rfl (Nat.le_of_ble_eq_true rfl) d_La_proves_15 ?_
    refine z_goto 29 d_La_proves_18 (by decide) ?_
    refine z_iconst (v := 0) d_La_proves_29 (by decide) ?_
    exact z_iret rfl (by first | exact lTe.b e9 hT3 hF3 ho1 ⟨hK3, Or.inl ⟨rfl, ht9⟩⟩ | exact lTe.x (by decide) hT4 hF4 hO ho1 ⟨hK4, Or.inr ⟨by decide, Or.inl ⟨h1, rfl⟩⟩⟩ | exact lTe.x (by decide) hT4 hF4 hO ho1 ⟨hK4, Or.inr ⟨by decide, Or.inr ⟨h0, h1, rfl⟩⟩⟩) (by first | decide | omega) (by first | decide | omega) d_La_proves_30
  · skip
    obtain ⟨b9, hb9⟩ := (⟨_, ht9.2.2⟩ : ∃ b, _ = zb b)
    have e9 := zb_l1 hb9 c_7
    refine z_lconst (v := 1) d_La_proves_10 (by decide) ?_
    refine z_goto 15 d_La_proves_11 (by decide) ?_
    refine z_putN zc_Ou 0 (by decide) qFn_La_13 hG_Ou rfl rfl rfl (Nat.le_of_ble_eq_true rfl) d_La_proves_15 ?_
    refine z_goto 29 d_La_proves_18 (by decide) ?_
    refine z_iconst (v := 0) d_La_proves_29 (by decide) ?_
    exact z_iret rfl (by first | exact lTe.b e9 hT3 hF3 ho1 ⟨hK3, Or.inl ⟨rfl, ht9⟩⟩ | exact lTe.x (by decide) hT4 hF4 hO ho1 ⟨hK4, Or.inr ⟨by decide, Or.inl ⟨h1, rfl⟩⟩⟩ | exact lTe.x (by decide) hT4 hF4 hO ho1 ⟨hK4, Or.inr ⟨by decide, Or.inr ⟨h0, h1, rfl⟩⟩⟩) (by first | decide | omega) (by first | decide | omega) d_La_proves_30
theorem j_proves_b {V V' : Nat → Nat → Int32} {nk ns : Nat} {kk v : Int32} {x w : Int32} (hC : cAs V (tPv V x w) (pPv V x w) kk V' v) (c : kk = 0) : ∃ b, v = zb b := by
  have h := (hC.2.resolve_right (fun q => q.1 c)).2
  exact ⟨_, h.2.2⟩

theorem j_proves {d : zD} {V V' : Nat → Nat → Int32} {nk ns : Nat} {B : Nat → Nat} {W : Nat → Nat → Int32} {N ne ec : Nat} {G G1 : zG} {r : Option Value} {kk v : Int32} (h : zSM N V W nk ns ne) (hN : N < 2 ^ 20) (hnk : nk ≤ 8) (hns : ns ≤ 6) {x w : Int32} (hC : cAs V (tPv V x w) (pPv V x w) kk V' v) (hM : (mAq d B nk ns ne ec W G (rPv ne x w)) r G1) : zJ d N V' nk ns nk ns B ne G kk v r G1 := by
  refine jAs h hC hM (fun W' t b h1 hT hc => ?_)
  have e1 : V 5 0 = nI ne := h1.2.2.2.1.1
  have e2 : ne ≤ 64 := h1.2.2.2.1.2.1.1
  rcases hc with ⟨rfl, a1, a2, a3⟩ | ⟨hz, ⟨a1, rfl⟩ | ⟨a1, a2, rfl⟩⟩ <;> rw [e1] at a1
  · rcases hT with ⟨c1, -⟩ | ⟨e, he, rfl, ⟨c2, -⟩ | ⟨-, t0, eb⟩⟩
    · rw [a1] at c1; cases c1
    · rw [a2] at c2; cases c2
    · refine ⟨t0.symm, fun _ => (a3.trans (congrArg zb (decide_eq_decide.mpr ?_))).trans eb.symm⟩
      have q1 := h1.ct (e := e) (by omega) w 6 (Nat.le_refl 6)
      have q2 := h1.nd (r := 6) (by decide) (k := 0) (by decide)
      rw [show e / 2 ^ 6 = 0 from Nat.div_eq_of_lt (by omega)] at q1
      rw [q1, q2, show (1 : Int32) = nI 1 from rfl, zrd_N (by decide) (by decide)]
  · rcases hT with ⟨-, rfl⟩ | ⟨e, he, ex, -⟩
    · exact ⟨rfl, fun q => absurd q hz⟩
    · exact absurd ⟨e, he, ex⟩ (zIx_2 (by omega) a1)
  · rcases hT with ⟨c1, -⟩ | ⟨e, he, ex, ⟨-, rfl⟩ | ⟨c2, -⟩⟩
    · rw [a1] at c1; cases c1
    · exact ⟨rfl, fun q => absurd q hz⟩
    · rw [a2] at c2; cases c2


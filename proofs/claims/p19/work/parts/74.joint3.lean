
theorem zSM.wf {N : Nat} {V W : Nat → Nat → Int32} {nk ns ne : Nat} (h : zSM N V W nk ns ne) : ∀ si, si < ns → ∃ f, f < 4 ∧ W (200 + si) 4 = nI f := fun si hsi => by
  obtain ⟨s1, ⟨f, hf, e⟩, -⟩ := h.2.2.1 si hsi
  exact ⟨f, hf, (s1 4 (by decide)).symm.trans e⟩
theorem zb_l1 {v : Int32} {b : Bool} (h : v = zb b) (c : ¬ v = 0) : (1 : Int64) = v.toInt64 := by
  subst h
  rw [(zb_n0 _).mp c]
  decide
theorem zb_l0 {v : Int32} (c : v = 0) : (0 : Int64) = v.toInt64 := by
  subst c
  decide
theorem lTe.b {d : zD} {A : Nat → Nat} {D : Nat → UInt64} {V1 : Nat → Nat → Int32} {nk ns ho : Nat} {G G1 : zG} {P : Int32 → (Nat → Nat → Int32) → Int32 → Prop} {v : Int32} {n : Int64} {x : UInt64} {y : Value} (hn : n = v.toInt64) (hT : zT d A D V1 nk ns G1) (hF : tFr A nk ns G G1) (ho1 : ∀ r, tlive nk ns r → A r ≠ ho) (hP : P 0 V1 v) : lTe d A nk ns ho G P (some (.int 0)) (zu G1 ho (zob 9 [.long n, .double x, y])) := by
  subst hn
  exact lTe.r hT hF ho1 hP
theorem jAs {d : zD} {V V' : Nat → Nat → Int32} {nk ns : Nat} {B : Nat → Nat} {W : Nat → Nat → Int32} {N ne ec : Nat} {G G1 : zG} {r : Option Value} {kk v : Int32} (h : zSM N V W nk ns ne) {T P : Int32 → Prop} {TM : Int32 → Int32 → (Nat → Nat → Int32) → Prop} (hC : cAs V T P kk V' v) (hM : mAq d B nk ns ne ec W G TM r G1) (hE : ∀ (W' : Nat → Nat → Int32) (t b : Int32), zSM N V W' nk ns ne → TM t b W' → ((kk = 0 ∧ T v) ∨ (kk ≠ 0 ∧ P kk)) → kk = t ∧ (kk = 0 → v = b)) : zJ d N V' nk ns nk ns B ne G kk v r G1 := by
  obtain ⟨hK, hC⟩ := hC
  obtain ⟨b, W', rfl, t, m1, k1, m2⟩ := hM
  obtain ⟨e1, e2⟩ := hE W' _ b (h.m k1) t hC
  exact ⟨b, B, W', ne, ec, rfl, m1, mNw.rf, m2, ((h.c hK).m k1).up (by omega), e1, e2⟩

theorem zcnt_andn {f g : Nat → Bool} : ∀ n, (∀ k, k < n → g k = true → f k = true) → zcnt (fun k => f k && !g k) n + zcnt g n = zcnt f n
  | 0, _ => rfl
  | n + 1, h => by
    have ih := zcnt_andn n (fun k hk => h k (by omega))
    show zcnt (fun k => f k && !g k) n + (if (f n && !g n) = true then 1 else 0) + (zcnt g n + (if g n = true then 1 else 0)) = zcnt f n + (if f n = true then 1 else 0)
    by_cases hg : g n = true
    · have hf := h n (by omega) hg
      rw [hf, hg, if_neg (by decide), if_pos rfl]
      omega
    · have hg2 := Bool.eq_false_iff.mpr hg
      rw [hg2]
      by_cases hf : f n = true
      · rw [hf, if_pos (by decide), if_neg (by decide), if_pos rfl]; omega
      · rw [Bool.eq_false_iff.mpr hf, if_neg (by decide), if_neg (by decide)]; omega
theorem pop_andn {q a : Nat} (hq : q < 256) (ha : a < 256) (h : ∀ k, k < 8 → a.testBit k = true → q.testBit k = true) : nI (zpop 9 (zsetN (fun k => q.testBit k && !a.testBit k) 9)) = nI (zpop 9 q) - nI (zpop 9 a) := by
  have e1 := zpop_cnt (fun k => q.testBit k && !a.testBit k) 9 (by decide)
  have e2 := zcnt_andn (f := fun k => q.testBit k) (g := fun k => a.testBit k) 9 (fun k hk h1 => by
    by_cases h8 : k < 8
    · exact h k h8 h1
    · exfalso
      have p2 : 2 ^ 8 ≤ 2 ^ k := Nat.pow_le_pow_right (by decide) (by omega)
      rw [Nat.testBit_lt_two_pow (i := k) (x := a) (by omega)] at h1
      cases h1)
  have e3 := zpop_cnt (fun k => q.testBit k) 9 (by decide)
  have e4 := zpop_cnt (fun k => a.testBit k) 9 (by decide)
  rw [zsN_self q (by omega)] at e3
  rw [zsN_self a (by omega)] at e4
  have p := zpop_le q (by omega)
  rw [e1, ← Int32.toInt_inj, pk_sub_toInt (by omega) (by omega), nI_toInt (by have := zcnt_n (f := fun k => q.testBit k && !a.testBit k) 9; omega)]
  omega
theorem rmb_few {inv h : Nat → Int32} {t g : Nat} (hg : g < 256) (hn : zpop 9 g < t) (m : Nat) (hm : m < 256) : (rmb inv h t g m).1 = 0 := by
  obtain ⟨h1, h2⟩ := rmb_in (inv := inv) (h := h) (t := t) (g := g) m
  rcases h2 with ⟨e, -⟩ | ⟨-, e, -⟩
  · exact e
  · exfalso
    obtain ⟨c1, c2⟩ := rcd_sub hg (by omega) e
    have := pop_sub (q := (rmb inv h t g m).1) (r := g) (by omega) hg c1
    omega
theorem qGr_eq {N : Nat} {V W : Nat → Nat → Int32} {nk ns ne : Nat} (h : zSM N V W nk ns ne) (hN : N < 2 ^ 20) (hnk : nk ≤ 8) {i g t : Nat} (hi : i < ns) (hg : g < 256) (ht : W (200 + i) 0 = nI t) (ht1 : 1 ≤ t) (ht4 : t ≤ 4) {V4 : Nat → Nat → Int32} (hd : zDd V V4 nk i (nI g)) {q : Nat} (hq : q < 6) : qGr V4 nk i (nI q) = qWd W nk i g t (nI q) := by
  obtain ⟨k4, e12, hgv⟩ := h.dd hN hnk hi hg ht ht1 ht4 hd
  have hl := mgr_lt (V := W) (si := i) (s := g)
  have hra := rag_lt (inv := W 7) (h := mgv W i) (g := mgr W i g) (q := (rmb (W 7) (mgv W i) t (mgr W i g) (mgr W i g)).1)
  have hr0 := rg0_lt (inv := W 7) (h := mgv W i) (g := mgr W i g) (b := (rmb (W 7) (mgv W i) t (mgr W i g) (mgr W i g)).1)
  have f0 : V4 12 0 = nI t := by rw [e12]; rfl
  have f1 : V4 12 1 = nI (2 * mgr W i g) := by rw [e12]; rfl
  have f2 : V4 12 2 = nI (2 * (rmb (W 7) (mgv W i) t (mgr W i g) (mgr W i g)).1) := by rw [e12]; rfl
  have f3 : V4 12 3 = nI (2 * rg0 (W 7) (mgv W i) (mgr W i g) (rmb (W 7) (mgv W i) t (mgr W i g) (mgr W i g)).1) := by rw [e12]; rfl
  have hz0 : zbc (nI (2 * mgr W i g)) = nI (zpop 9 (mgr W i g)) := by rw [zbc_512 _ (by omega), zpop_2 _ hl]
  have hz3 : zbc (nI (2 * rg0 (W 7) (mgv W i) (mgr W i g) (rmb (W 7) (mgv W i) t (mgr W i g) (mgr W i g)).1)) = nI (zpop 9 (rg0 (W 7) (mgv W i) (mgr W i g) (rmb (W 7) (mgv W i) t (mgr W i g) (mgr W i g)).1)) := by rw [zbc_512 _ (by omega), zpop_2 _ hr0]
  have han := pop_andn hl hra (fun k hk h1 => rag_sub hk h1)
  have p9 := zpop_le (mgr W i g) (by omega)
  unfold qGr
  rw [f0, f1, f2, f3, hz0, hz3, shr_2 (by omega), (h.c k4).lw hi, zgood_rgd hl ht1 (by omega), show (0 : Int32) = nI 0 from nI_0.symm, h.val k4 hgv]
  unfold qWd
  rw [han]
  by_cases hn : t ≤ zpop 9 (mgr W i g)
  · have hb0 : (rmb (W 7) (mgv W i) t (mgr W i g) (mgr W i g)).1 ≠ 0 := rmb_ne hl ht1 hn
    have hr1 : rg0 (W 7) (mgv W i) (mgr W i g) (rmb (W 7) (mgv W i) t (mgr W i g) (mgr W i g)).1 = rag (W 7) (mgv W i) (mgr W i g) (rmb (W 7) (mgv W i) t (mgr W i g) (mgr W i g)).1 := if_neg hb0
    have hle : nI t ≤ nI (zpop 9 (mgr W i g)) := nI_le hn (by omega)
    rw [hr1, liars_eq hl hra, if_pos hle]
    by_cases hgo : nI (zpop 9 (mgr W i g)) - nI (zpop 9 (rag (W 7) (mgv W i) (mgr W i g) (rmb (W 7) (mgv W i) t (mgr W i g) (mgr W i g)).1)) ≤ (nI (zpop 9 (mgr W i g)) - nI t) / 2
    · have hgd : rgd (W 7) (mgv W i) t (mgr W i g) = true := by unfold rgd; rw [decide_eq_true hle, decide_eq_true hgo]; rfl
      rw [hgd, if_pos hgo]
      have : q = 0 ∨ q = 1 ∨ q = 2 ∨ q = 3 ∨ q = 4 ∨ q = 5 := by omega
      rcases this with rfl | rfl | rfl | rfl | rfl | rfl <;> rfl
    · have hgd : rgd (W 7) (mgv W i) t (mgr W i g) = false := by unfold rgd; rw [decide_eq_false (p := nI (zpop 9 (mgr W i g)) - nI (zpop 9 (rag (W 7) (mgv W i) (mgr W i g) (rmb (W 7) (mgv W i) t (mgr W i g) (mgr W i g)).1)) ≤ (nI (zpop 9 (mgr W i g)) - nI t) / 2) hgo, Bool.and_false]
      rw [hgd, if_neg hgo]
      have : q = 0 ∨ q = 1 ∨ q = 2 ∨ q = 3 ∨ q = 4 ∨ q = 5 := by omega
      rcases this with rfl | rfl | rfl | rfl | rfl | rfl <;> rfl
  · have hle : ¬ nI t ≤ nI (zpop 9 (mgr W i g)) := fun z => hn ((nI_leI (by omega) (by omega)).mp z)
    have hb0 : (rmb (W 7) (mgv W i) t (mgr W i g) (mgr W i g)).1 = 0 := rmb_few hl (by omega) _ hl
    have hr1 : rg0 (W 7) (mgv W i) (mgr W i g) (rmb (W 7) (mgv W i) t (mgr W i g) (mgr W i g)).1 = 0 := if_pos hb0
    have hgd : rgd (W 7) (mgv W i) t (mgr W i g) = false := by unfold rgd; rw [decide_eq_false (p := nI t ≤ nI (zpop 9 (mgr W i g))) hle, Bool.false_and]
    rw [hr1, if_neg hle, hgd, show zpop 9 0 = 0 from by decide]
    have : q = 0 ∨ q = 1 ∨ q = 2 ∨ q = 3 ∨ q = 4 ∨ q = 5 := by omega
    rcases this with rfl | rfl | rfl | rfl | rfl | rfl <;> rfl

set_option maxHeartbeats 4000000 in
set_option maxRecDepth 100000 in
theorem m_La_wouldE {g0 : State} {d : zD} {l : Launch} {a0 : Array Value} (hs0 : zS0 d a0 g0) (hst : l.stackTraces = false) {G : zG} {A : Nat → Nat} {D : Nat → UInt64} {V : Nat → Nat → Int32} {nk ns : Nat} (hT : zT d A D V nk ns G) (hNc : zNc g0) {ho : Nat} (hO : zOut ho G) (ho1 : ∀ r, tlive nk ns r → A r ≠ ho) (x : Int32) (set : Int32) (w : Int32) : zMetW g0 d l y_La_would c_La_would 6 ((Option.some Jvm.ClassFile.FieldType.int)) ([((0 : Nat), (13 : Nat), (16 : Nat), (27 : Nat)), ((0 : Nat), (13 : Nat), (20 : Nat), (19 : Nat))]) 15 5 116 [.ref (A 0), .int x, .int set, .int w, .ref ho] (G) (lTe d A nk ns ho G (cAs V (tWd V nk ns x set w) (pWd nk ns x set w))) (zNo) := by
  have hG_Tb := hT.tb
  have hnk : nk ≤ 8 := hT.2.1
  have hns : ns ≤ 6 := hT.2.2.1
  obtain ⟨on, ox, oy, hOe⟩ := id hO
  refine z_entryW hs0 hst (by decide) (Nat.le_of_ble_eq_true rfl) (fun p e s m args below meth c => ?_)
  refine z_aload 4 d_La_would_0 rfl ?_
  refine z_aload_n 0 d_La_would_2 rfl rfl ?_
  refine z_iload_n 1 d_La_would_3 rfl rfl ?_
  refine z_iload_n 2 d_La_would_4 rfl rfl ?_
  refine z_iload_n 3 d_La_would_5 rfl rfl ?_
  refine z_callV ((m_Tb_wouldE hs0 hst hT x set w)) ym_Tb_would qM_La_79 qI_Tb_would qV_Tb_Tb_would zc_Tb hT.tb d_La_would_6 rfl (Nat.le_of_ble_eq_true rfl) ⟨by decide, by decide⟩ ⟨Nat.le_of_ble_eq_true rfl, Nat.le_of_ble_eq_true rfl⟩ ?_ ?_
  · intro E G9 hx
    obtain ⟨hx, D4, V4, hT4, hK4, hF4⟩ := hx
    rcases hx with ⟨h1, rfl⟩ | ⟨si, hsi, ex, h1, rfl⟩
    · refine z_catch [] ⟨0, 13, 16, 27⟩ [⟨0, 13, 20, 19⟩] rfl (fun _ h => nomatch h) rfl (by decide) qK_La_27 qT_IOE_IOE (fun q9 => ?_)
      refine z_astore (L' := [(5, _), (0, _), (1, _), (2, _), (3, _), (4, _)]) d_La_would_16 (by decide) rfl ?_
      refine z_iconst (v := 1) d_La_would_18 (by decide) ?_
      exact z_iret rfl (by first | exact lTe.r hT3 hF3 ho1 ⟨hK3, Or.inl ⟨rfl, ht9⟩⟩ | exact lTe.x (by decide) hT4 hF4 hO ho1 ⟨hK4, Or.inr ⟨by decide, Or.inl ⟨h1, rfl⟩⟩⟩ | exact lTe.x (by decide) hT4 hF4 hO ho1 ⟨hK4, Or.inr ⟨by decide, Or.inr ⟨si, hsi, ex, h1, rfl⟩⟩⟩) (by first | decide | omega) (by first | decide | omega) d_La_would_19
    · refine z_catch [⟨0, 13, 16, 27⟩] ⟨0, 13, 20, 19⟩ [] rfl (fun z hz => by
        simp only [List.mem_cons, List.not_mem_nil, or_false] at hz
        rcases hz with rfl
        · exact Or.inr ⟨by decide, _, qK_La_27, hNc.IAE_IOE⟩) rfl (by decide) qK_La_19 qT_IAE_IAE (fun q9 => ?_)
      refine z_astore (L' := [(5, _), (0, _), (1, _), (2, _), (3, _), (4, _)]) d_La_would_20 (by decide) rfl ?_
      refine z_iconst (v := 2) d_La_would_22 (by decide) ?_
      exact z_iret rfl (by first | exact lTe.r hT3 hF3 ho1 ⟨hK3, Or.inl ⟨rfl, ht9⟩⟩ | exact lTe.x (by decide) hT4 hF4 hO ho1 ⟨hK4, Or.inr ⟨by decide, Or.inl ⟨h1, rfl⟩⟩⟩ | exact lTe.x (by decide) hT4 hF4 hO ho1 ⟨hK4, Or.inr ⟨by decide, Or.inr ⟨si, hsi, ex, h1, rfl⟩⟩⟩) (by first | decide | omega) (by first | decide | omega) d_La_would_23
  intro r_6 G_6 hp_6
  obtain ⟨⟨v9, rfl, ht9⟩, D3, V3, hT3, hK3, hF3⟩ := hp_6
  have hG_Ou := hF3 _ _ hOe (fun r hr => (ho1 r hr).symm)
  refine z_i2l d_La_would_9 rfl ?_
  refine z_putN zc_Ou 0 (by decide) qFn_La_13 hG_Ou rfl rfl rfl (Nat.le_of_ble_eq_true rfl) d_La_would_10 ?_
  refine z_goto 24 d_La_would_13 (by decide) ?_
  refine z_iconst (v := 0) d_La_would_24 (by decide) ?_
  exact z_iret rfl (by first | exact lTe.r hT3 hF3 ho1 ⟨hK3, Or.inl ⟨rfl, ht9⟩⟩ | exact lTe.x (by decide) hT4 hF4 hO ho1 ⟨hK4, Or.inr ⟨by decide, Or.inl ⟨h1, rfl⟩⟩⟩ | exact lTe.x (by decide) hT4 hF4 hO ho1 ⟨hK4, Or.inr ⟨by decide, Or.inr ⟨si, hsi, ex, h1, rfl⟩⟩⟩) (by first | decide | omega) (by first | decide | omega) d_La_would_25
theorem j_would {d : zD} {V V' : Nat → Nat → Int32} {nk ns : Nat} {B : Nat → Nat} {W : Nat → Nat → Int32} {N ne ec : Nat} {G G1 : zG} {r : Option Value} {kk v : Int32} (h : zSM N V W nk ns ne) (hN : N < 2 ^ 20) (hnk : nk ≤ 8) (hns : ns ≤ 6) {x set w : Int32} (hC : cAs V (tWd V nk ns x set w) (pWd nk ns x set w) kk V' v) (hM : (mAq d B nk ns ne ec W G (rWd nk ns x set w)) r G1) : zJ d N V' nk ns nk ns B ne G kk v r G1 := by
  refine jAs h hC hM (fun W' t b h1 hT hc => ?_)
  have hp2 : 2 ^ nk ≤ 256 := Nat.pow_le_pow_right (n := 2) (by decide) hnk
  rcases hc with ⟨rfl, si, hsi, rfl, a1, a2, V4, hd, a3⟩ | ⟨hz, ⟨a1, rfl⟩ | ⟨si, hsi, rfl, a1, rfl⟩⟩
  · rcases hT with ⟨c1, -⟩ | ⟨s9, hs9, es, ⟨c1 | c1, -⟩ | ⟨g, hg, rfl, -, t0, t9, h91, h94, et, rfl⟩⟩
    · exact absurd ⟨si, hsi, rfl⟩ (zIx_2 (by omega) c1)
    · rw [a1] at c1; cases c1
    · rw [a2] at c1; cases c1
    · obtain rfl : s9 = si := (nI_eq (by omega) (by omega)).mp es.symm
      obtain ⟨q, hq, rfl⟩ := zin_l (n := 5) a2 (by decide)
      exact ⟨t0.symm, fun _ => a3.trans (qGr_eq h1 hN hnk hsi (by omega) et h91 h94 hd (by omega))⟩
  · rcases hT with ⟨-, rfl⟩ | ⟨s9, hs9, es, -⟩
    · exact ⟨rfl, fun q => absurd q hz⟩
    · exact absurd ⟨s9, hs9, es⟩ (zIx_1 (by omega) a1)
  · rcases hT with ⟨c1, -⟩ | ⟨s9, hs9, es, ⟨-, rfl⟩ | ⟨g, hg, rfl, c2, -⟩⟩
    · exact absurd ⟨si, hsi, rfl⟩ (zIx_2 (by omega) c1)
    · exact ⟨rfl, fun q => absurd q hz⟩
    · exfalso
      rcases a1 with a1 | a1
      · rw [zset_ok hnk hg] at a1; cases a1
      · rw [c2] at a1; cases a1


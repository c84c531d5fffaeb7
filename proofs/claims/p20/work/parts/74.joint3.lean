
theorem zSM.wf {N : Nat} {V W : Nat → Nat → Int32} {nk ns ne : Nat} (h : zSM N V W nk ns ne) : ∀ si, si < ns → ∃ f, f < 4 ∧ W (200 + si) 4 = nI f := fun si hsi => by
  obtain ⟨s1, ⟨f, hf, e⟩, -⟩ := h.2.2.1 si hsi
  exact ⟨f, hf, (s1 4 (by decide)).symm.trans e⟩
theorem zb_l1 {v : Int32} {b : Bool} (h : v = zb b) (c : ¬ v = 0) : (1 : Int64) = v.toInt64 := by
  subst h
  rw [(zb_n0 _).mp c]
  decide
theorem zb_l0 {v : Int32} (c : v = 0) : (0 : Int64) = v.toInt64 := by
  subst c
  decide
theorem lTe.b {d : zD} {A : Nat → Nat} {D : Nat → UInt64} {V1 : Nat → Nat → Int32} {nk ns ho : Nat} {G G1 : zG} {P : Int32 → (Nat → Nat → Int32) → Int32 → Prop} {v : Int32} {n : Int64} {x : UInt64} {y : Value} (hn : n = v.toInt64) (hT : zT d A D V1 nk ns G1) (hF : tFr A nk ns G G1) (ho1 : ∀ r, tlive nk ns r → A r ≠ ho) (hP : P 0 V1 v) : lTe d A nk ns ho G P (some (.int 0)) (zu G1 ho (zob 9 [.long n, .double x, y])) := by
  subst hn
  exact lTe.r hT hF ho1 hP
theorem jAs {d : zD} {V V' : Nat → Nat → Int32} {nk ns : Nat} {B : Nat → Nat} {W : Nat → Nat → Int32} {N ne ec : Nat} {G G1 : zG} {r : Option Value} {kk v : Int32} (h : zSM N V W nk ns ne) {T P : Int32 → Prop} {TM : Int32 → Int32 → (Nat → Nat → Int32) → Prop} (hC : cAs V T P kk V' v) (hM : mAq d B nk ns ne ec W G TM r G1) (hE : ∀ (W' : Nat → Nat → Int32) (t b : Int32), zSM N V W' nk ns ne → TM t b W' → ((kk = 0 ∧ T v) ∨ (kk ≠ 0 ∧ P kk)) → kk = t ∧ (kk = 0 → v = b)) : zJ d N V' nk ns nk ns B ne G kk v r G1 := by
  obtain ⟨hK, hC⟩ := hC
  obtain ⟨b, W', rfl, t, m1, k1, m2⟩ := hM
  obtain ⟨e1, e2⟩ := hE W' _ b (h.m k1) t hC
  exact ⟨b, B, W', ne, ec, rfl, m1, mNw.rf, m2, ((h.c hK).m k1).up (by omega), e1, e2⟩

theorem qMy_eq {N : Nat} {V W : Nat → Nat → Int32} {nk ns ne : Nat} (h : zSM N V W nk ns ne) (hN : N < 2 ^ 20) (hnk : nk ≤ 8) {i g t wn : Nat} (hi : i < ns) (hg : g < 256) (ht : W (200 + i) 0 = nI t) (ht4 : t ≤ 4) (hw : wn < 97) {V3 : Nat → Nat → Int32} (hd : zGa V V3 i (nI g) nk) : zb (decide (zag (V3 13) (upd (V3 14) 0 (zfm (nI wn))) (V3 12 1 ||| (1 <<< (nI 0 &&& 31))) (zoc (V3 12 1 ||| (1 <<< (nI 0 &&& 31))) (V3 12 0) 9) = V3 12 1 ||| (1 <<< (nI 0 &&& 31)))) = qMy W i g t (nI wn) := by
  obtain ⟨g1, g2, g3⟩ := hd
  rw [h.pts hN hnk hi hg, h.t hi ht] at g1
  have hl := mgr_lt (V := W) (si := i) (s := g)
  have f0 : V3 12 0 = nI t := by rw [g1]; rfl
  have f1 : V3 12 1 = nI (2 * mgr W i g) := by rw [g1]; rfl
  have ei : V3 13 = V 13 := g3.row (by decide) (by decide)
  have key : ∀ q, q < 256 → nI (2 * q) ||| (1 <<< (nI 0 &&& 31)) = nI (2 * q + 1) := by decide +kernel
  have eps : nI (2 * mgr W i g) ||| (1 <<< (nI 0 &&& 31)) = nI (zsetN (gpw true (fun k => (mgr W i g).testBit k)) 9) := by
    rw [key _ hl, gpw_N, zsN_self8 _ hl]
    rfl
  have hgv : ∀ k, k < 9 → gpw true (fun k => (mgr W i g).testBit k) k = true → upd (V3 14) 0 (zfm (nI wn)) k = gvw (nI wn) (mgv W i) k := fun k hk h1 => by
    match k, hk, h1 with
    | 0, _, _ =>
      rw [pk_us]
      show zfm (nI wn) = nI wn
      rw [zfm_s (by omega), Nat.mod_eq_of_lt hw]
    | k + 1, hk, h1 =>
      have h1' : (mgr W i g).testBit k = true := h1
      have hz : zgd (W (300 + i)) (W (400 + i)) (W (200 + i) 3) k = true := by rw [mgr_at (by omega), Bool.and_eq_true] at h1'; exact h1'.1
      obtain ⟨hn, e2, -⟩ := h.gv hi (by omega) hz
      rw [pk_un (by omega), g2 k hn (by rw [h.gf hN hi hg (by omega)]; exact h1')]
      exact e2
  have hsm := mgr_sm (s := g) h.ok hi
  have hgs : ∀ k, k < 9 → gpw true (fun k => (mgr W i g).testBit k) k = true → upd (V3 14) 0 (zfm (nI wn)) k = nI (upd (V3 14) 0 (zfm (nI wn)) k).toNatClampNeg ∧ (upd (V3 14) 0 (zfm (nI wn)) k).toNatClampNeg < 97 := fun k hk h1 => by
    rw [hgv k hk h1]
    match k, hk, h1 with
    | 0, _, _ => exact ⟨(congrArg nI (nI_clamp (by omega))).symm, by show (nI wn).toNatClampNeg < 97; rw [nI_clamp (by omega)]; exact hw⟩
    | k + 1, hk, h1 =>
      obtain ⟨j, hj, e⟩ := hsm k (by omega) h1
      show mgv W i k = nI (mgv W i k).toNatClampNeg ∧ (mgv W i k).toNatClampNeg < 97
      rw [e, nI_clamp (by omega)]
      exact ⟨rfl, hj⟩
  rw [f0, f1, ei, oc_all h.2.2.2.2.1 zinv_v eps (by omega) hgs]
  unfold qMy
  rw [roK_congr h.iv (fun _ _ => rfl) hgv]

set_option maxHeartbeats 4000000 in
set_option maxRecDepth 100000 in
theorem m_La_mayE {g0 : State} {d : zD} {l : Launch} {a0 : Array Value} (hs0 : zS0 d a0 g0) (hst : l.stackTraces = false) {G : zG} {A : Nat → Nat} {D : Nat → UInt64} {V : Nat → Nat → Int32} {nk ns : Nat} (hT : zT d A D V nk ns G) (hNc : zNc g0) {ho : Nat} (hO : zOut ho G) (ho1 : ∀ r, tlive nk ns r → A r ≠ ho) (x : Int32) (set : Int32) (w : Int32) : zMetW g0 d l y_La_may c_La_may 6 ((Option.some Jvm.ClassFile.FieldType.int)) ([((0 : Nat), (20 : Nat), (23 : Nat), (27 : Nat)), ((0 : Nat), (20 : Nat), (27 : Nat), (19 : Nat))]) 13 5 116 [.ref (A 0), .int x, .int set, .int w, .ref ho] (G) (lTe d A nk ns ho G (cAs V (tMy V nk ns x set w) (pMy nk ns x set w))) (zNo) := by
  have hG_Tb := hT.tb
  have hnk : nk ≤ 8 := hT.2.1
  have hns : ns ≤ 6 := hT.2.2.1
  obtain ⟨on, ox, oy, hOe⟩ := id hO
  refine z_entryW hs0 hst (by decide) (Nat.le_of_ble_eq_true rfl) (fun p e s m args below meth c => ?_)
  refine z_aload 4 d_La_may_0 rfl ?_
  refine z_aload_n 0 d_La_may_2 rfl rfl ?_
  refine z_iload_n 1 d_La_may_3 rfl rfl ?_
  refine z_iload_n 2 d_La_may_4 rfl rfl ?_
  refine z_iload_n 3 d_La_may_5 rfl rfl ?_
  refine z_callV ((m_Tb_mayE hs0 hst hT x set w)) ym_Tb_may qM_La_82 qI_Tb_may qV_Tb_Tb_may zc_Tb hT.tb d_La_may_6 rfl (Nat.le_of_ble_eq_true rfl) ⟨by decide, by decide⟩ ⟨Nat.le_of_ble_eq_true rfl, Nat.le_of_ble_eq_true rfl⟩ ?_ ?_
  · intro E G9 hx
    obtain ⟨hx, D4, V4, hT4, hK4, hF4⟩ := hx
    rcases hx with ⟨h1, rfl⟩ | ⟨si, hsi, ex, h1, rfl⟩
    · refine z_catch [] ⟨0, 20, 23, 27⟩ [⟨0, 20, 27, 19⟩] rfl (fun _ h => nomatch h) rfl (by decide) qK_La_27 qT_IOE_IOE (fun q9 => ?_)
      refine z_astore (L' := [(5, _), (0, _), (1, _), (2, _), (3, _), (4, _)]) d_La_may_23 (by decide) rfl ?_
      refine z_iconst (v := 1) d_La_may_25 (by decide) ?_
      exact z_iret rfl (by first | exact lTe.b e9 hT3 hF3 ho1 ⟨hK3, Or.inl ⟨rfl, ht9⟩⟩ | exact lTe.x (by decide) hT4 hF4 hO ho1 ⟨hK4, Or.inr ⟨by decide, Or.inl ⟨h1, rfl⟩⟩⟩ | exact lTe.x (by decide) hT4 hF4 hO ho1 ⟨hK4, Or.inr ⟨by decide, Or.inr ⟨si, hsi, ex, h1, rfl⟩⟩⟩) (by first | decide | omega) (by first | decide | omega) d_La_may_26
    · refine z_catch [⟨0, 20, 23, 27⟩] ⟨0, 20, 27, 19⟩ [] rfl (fun z hz => by
        simp only [List.mem_cons, List.not_mem_nil, or_false] at hz
        rcases hz with rfl
        · exact Or.inr ⟨by decide, _, qK_La_27, hNc.IAE_IOE⟩) rfl (by decide) qK_La_19 qT_IAE_IAE (fun q9 => ?_)
      refine z_astore (L' := [(5, _), (0, _), (1, _), (2, _), (3, _), (4, _)]) d_La_may_27 (by decide) rfl ?_
      refine z_iconst (v := 2) d_La_may_29 (by decide) ?_
      exact z_iret rfl (by first | exact lTe.b e9 hT3 hF3 ho1 ⟨hK3, Or.inl ⟨rfl, ht9⟩⟩ | exact lTe.x (by decide) hT4 hF4 hO ho1 ⟨hK4, Or.inr ⟨by decide, Or.inl ⟨h1, rfl⟩⟩⟩ | exact lTe.x (by decide) hT4 hF4 hO ho1 ⟨hK4, Or.inr ⟨by decide, Or.inr ⟨si, hsi, ex, h1, rfl⟩⟩⟩) (by first | decide | omega) (by first | decide | omega) d_La_may_30
  intro r_6 G_6 hp_6
  obtain ⟨⟨v9, rfl, ht9⟩, D3, V3, hT3, hK3, hF3⟩ := hp_6
  have hG_Ou := hF3 _ _ hOe (fun r hr => (ho1 r hr).symm)
  refine z_if_eq 16 d_La_may_9 (by decide) (fun c_9 => ?_) (fun c_9 => ?_)
  · skip
    have e9 := zb_l0 c_9
    refine z_lconst (v := 0) d_La_may_16 (by decide) ?_
    refine z_putN zc_Ou 0 (by decide) qFn_La_13 hG_Ou rfl rfl rfl (Nat.le_of_ble_eq_true rfl) d_La_may_17 ?_
    refine z_goto 31 d_La_may_20 (by decide) ?_
    refine z_iconst (v := 0) d_La_may_31 (by decide) ?_
    exact z_iret rfl (by first | exact lTe.b e9 hT3 hF3 ho1 ⟨hK3, Or.inl ⟨rfl, ht9⟩⟩ | exact lTe.x (by decide) hT4 hF4 hO ho1 ⟨hK4, Or.inr ⟨by decide, Or.inl ⟨h1, rfl⟩⟩⟩ | exact lTe.x (by decide) hT4 hF4 hO ho1 ⟨hK4, Or.inr ⟨by decide, Or.inr ⟨si, hsi, ex, h1, rfl⟩⟩⟩) (by first | decide | omega) (by first | decide | omega) d_La_may_32
  · skip
    obtain ⟨b9, hb9⟩ := tMy_b ht9
    have e9 := zb_l1 hb9 c_9
    refine z_lconst (v := 1) d_La_may_12 (by decide) ?_
    refine z_goto 17 d_La_may_13 (by decide) ?_
    refine z_putN zc_Ou 0 (by decide) qFn_La_13 hG_Ou rfl rfl rfl (Nat.le_of_ble_eq_true rfl) d_La_may_17 ?_
    refine z_goto 31 d_La_may_20 (by decide) ?_
    refine z_iconst (v := 0) d_La_may_31 (by decide) ?_
    exact z_iret rfl (by first | exact lTe.b e9 hT3 hF3 ho1 ⟨hK3, Or.inl ⟨rfl, ht9⟩⟩ | exact lTe.x (by decide) hT4 hF4 hO ho1 ⟨hK4, Or.inr ⟨by decide, Or.inl ⟨h1, rfl⟩⟩⟩ | exact lTe.x (by decide) hT4 hF4 hO ho1 ⟨hK4, Or.inr ⟨by decide, Or.inr ⟨si, hsi, ex, h1, rfl⟩⟩⟩) (by first | decide | omega) (by first | decide | omega) d_La_may_32
theorem j_may_b {V V' : Nat → Nat → Int32} {nk ns : Nat} {kk v : Int32} {x set w : Int32} (hC : cAs V (tMy V nk ns x set w) (pMy nk ns x set w) kk V' v) (c : kk = 0) : ∃ b, v = zb b := by
  have h := (hC.2.resolve_right (fun q => q.1 c)).2
  exact tMy_b h

theorem j_may {d : zD} {V V' : Nat → Nat → Int32} {nk ns : Nat} {B : Nat → Nat} {W : Nat → Nat → Int32} {N ne ec : Nat} {G G1 : zG} {r : Option Value} {kk v : Int32} (h : zSM N V W nk ns ne) (hN : N < 2 ^ 20) (hnk : nk ≤ 8) (hns : ns ≤ 6) {x set w : Int32} (hC : cAs V (tMy V nk ns x set w) (pMy nk ns x set w) kk V' v) (hM : (mAq d B nk ns ne ec W G (rMy nk ns x set w)) r G1) : zJ d N V' nk ns nk ns B ne G kk v r G1 := by
  refine jAs h hC hM (fun W' t b h1 hT hc => ?_)
  have hp2 : 2 ^ nk ≤ 256 := Nat.pow_le_pow_right (n := 2) (by decide) hnk
  rcases hc with ⟨rfl, si, hsi, rfl, a1, a2, V3, hd, a3⟩ | ⟨hz, ⟨a1, rfl⟩ | ⟨si, hsi, rfl, a1, rfl⟩⟩
  · rcases hT with ⟨c1, -⟩ | ⟨s9, hs9, es, ⟨c1 | c1, -⟩ | ⟨g, hg, rfl, -, t0, t9, h91, h94, et, rfl⟩⟩
    · exact absurd ⟨si, hsi, rfl⟩ (zIx_2 (by omega) c1)
    · rw [a1] at c1; cases c1
    · rw [a2] at c1; cases c1
    · obtain rfl : s9 = si := (nI_eq (by omega) (by omega)).mp es.symm
      obtain ⟨wn, hwn, rfl⟩ := zin_l (n := 96) a2 (by decide)
      exact ⟨t0.symm, fun _ => a3.trans (qMy_eq h1 hN hnk hsi (by omega) et h94 (by omega) hd)⟩
  · rcases hT with ⟨-, rfl⟩ | ⟨s9, hs9, es, -⟩
    · exact ⟨rfl, fun q => absurd q hz⟩
    · exact absurd ⟨s9, hs9, es⟩ (zIx_1 (by omega) a1)
  · rcases hT with ⟨c1, -⟩ | ⟨s9, hs9, es, ⟨-, rfl⟩ | ⟨g, hg, rfl, c2, -⟩⟩
    · exact absurd ⟨si, hsi, rfl⟩ (zIx_2 (by omega) c1)
    · exact ⟨rfl, fun q => absurd q hz⟩
    · exfalso
      rcases a1 with a1 | a1
      · rw [zset_ok hnk hg] at a1; cases a1
      · rw [c2] at a1; cases a1


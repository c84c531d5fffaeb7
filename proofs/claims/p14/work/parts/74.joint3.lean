
theorem zSM.wf {N : Nat} {V W : Nat → Nat → Int32} {nk ns ne : Nat} (h : zSM N V W nk ns ne) : ∀ si, si < ns → ∃ f, f < 4 ∧ W (200 + si) 4 = nI f := fun si hsi => by
  obtain ⟨s1, ⟨f, hf, e⟩, -⟩ := h.2.2.1 si hsi
  exact ⟨f, hf, (s1 4 (by decide)).symm.trans e⟩
theorem zb_l1 {v : Int32} {b : Bool} (h : v = zb b) (c : ¬ v = 0) : (1 : Int64) = v.toInt64 := by
  subst h
  rw [(zb_n0 _).mp c]
  decide
theorem zb_l0 {v : Int32} (c : v = 0) : (0 : Int64) = v.toInt64 := by
  subst c
  decide
theorem lTe.b {d : zD} {A : Nat → Nat} {D : Nat → UInt64} {V1 : Nat → Nat → Int32} {nk ns ho : Nat} {G G1 : zG} {P : Int32 → (Nat → Nat → Int32) → Int32 → Prop} {v : Int32} {n : Int64} {x : UInt64} {y : Value} (hn : n = v.toInt64) (hT : zT d A D V1 nk ns G1) (hF : tFr A nk ns G G1) (ho1 : ∀ r, tlive nk ns r → A r ≠ ho) (hP : P 0 V1 v) : lTe d A nk ns ho G P (some (.int 0)) (zu G1 ho (zob 9 [.long n, .double x, y])) := by
  subst hn
  exact lTe.r hT hF ho1 hP
theorem jAs {d : zD} {V V' : Nat → Nat → Int32} {nk ns : Nat} {B : Nat → Nat} {W : Nat → Nat → Int32} {N ne ec : Nat} {G G1 : zG} {r : Option Value} {kk v : Int32} (h : zSM N V W nk ns ne) {T P : Int32 → Prop} {TM : Int32 → Int32 → (Nat → Nat → Int32) → Prop} (hC : cAs V T P kk V' v) (hM : mAq d B nk ns ne ec W G TM r G1) (hE : ∀ (W' : Nat → Nat → Int32) (t b : Int32), zSM N V W' nk ns ne → TM t b W' → ((kk = 0 ∧ T v) ∨ (kk ≠ 0 ∧ P kk)) → kk = t ∧ (kk = 0 → v = b)) : zJ d N V' nk ns nk ns B ne G kk v r G1 := by
  obtain ⟨hK, hC⟩ := hC
  obtain ⟨b, W', rfl, t, m1, k1, m2⟩ := hM
  obtain ⟨e1, e2⟩ := hE W' _ b (h.m k1) t hC
  exact ⟨b, B, W', ne, ec, rfl, m1, mNw.rf, m2, ((h.c hK).m k1).up (by omega), e1, e2⟩

theorem qSh_eq {N : Nat} {V W : Nat → Nat → Int32} {nk ns ne : Nat} (h : zSM N V W nk ns ne) (hN : N < 2 ^ 20) (hnk : nk ≤ 8) {si ki : Nat} (hsi : si < ns) (hki : ki < nk) (w : Int32) : qSh V si ki w = qSm W si ki w := by
  obtain ⟨s1, -, E, hE, s3, s4⟩ := h.2.2.1 si hsi
  obtain ⟨t1, t2, t3⟩ := s4 ki (by omega)
  obtain ⟨⟨-, -, -, k4, -⟩, -⟩ := h.2.1 ki hki
  unfold qSh qSm
  rcases t3 with ⟨u1, u2⟩ | ⟨-, s, e, hs, he, u1, u2⟩
  · have h9 : ¬ ((-1 : Int32) ≠ -1) := fun q => q rfl
    rw [← t1, ← t2, u1, u2, if_neg h9, if_pos (show (-1 : Int32) = -1 from rfl), ite_self, ite_self]
  · have eg : mgv W si ki = zr97 (nI s + V (100 + ki) 4) := by
      unfold mgv
      rw [← t1, u1, ← k4]
    rw [eg, ← t1, ← t2, u1, u2, if_pos (zSM.n1 e (by omega)), if_neg (zSM.n1 s (by omega))]

set_option maxHeartbeats 4000000 in
set_option maxRecDepth 100000 in
theorem m_La_shareE {g0 : State} {d : zD} {l : Launch} {a0 : Array Value} (hs0 : zS0 d a0 g0) (hst : l.stackTraces = false) {G : zG} {A : Nat → Nat} {D : Nat → UInt64} {V : Nat → Nat → Int32} {nk ns : Nat} (hT : zT d A D V nk ns G) (hNc : zNc g0) {ho : Nat} (hO : zOut ho G) (ho1 : ∀ r, tlive nk ns r → A r ≠ ho) (x : Int32) (z : Int32) (w : Int32) : zMetW g0 d l y_La_share c_La_share 6 ((Option.some Jvm.ClassFile.FieldType.int)) ([((0 : Nat), (13 : Nat), (16 : Nat), (27 : Nat)), ((0 : Nat), (13 : Nat), (20 : Nat), (19 : Nat))]) 13 5 116 [.ref (A 0), .int x, .int z, .int w, .ref ho] (G) (lTe d A nk ns ho G (cAs V (tSh V nk ns x z w) (pSh nk ns x z w))) (zNo) := by
  have hG_Tb := hT.tb
  have hnk : nk ≤ 8 := hT.2.1
  have hns : ns ≤ 6 := hT.2.2.1
  obtain ⟨on, ox, oy, hOe⟩ := id hO
  refine z_entryW hs0 hst (by decide) (Nat.le_of_ble_eq_true rfl) (fun p e s m args below meth c => ?_)
  refine z_aload 4 d_La_share_0 rfl ?_
  refine z_aload_n 0 d_La_share_2 rfl rfl ?_
  refine z_iload_n 1 d_La_share_3 rfl rfl ?_
  refine z_iload_n 2 d_La_share_4 rfl rfl ?_
  refine z_iload_n 3 d_La_share_5 rfl rfl ?_
  refine z_callV ((m_Tb_shareE hs0 hst hT x z w)) ym_Tb_share qM_La_59 qI_Tb_share qV_Tb_Tb_share zc_Tb hT.tb d_La_share_6 rfl (Nat.le_of_ble_eq_true rfl) ⟨by decide, by decide⟩ ⟨Nat.le_of_ble_eq_true rfl, Nat.le_of_ble_eq_true rfl⟩ ?_ ?_
  · intro E G9 hx
    obtain ⟨hx, D4, V4, hT4, hK4, hF4⟩ := hx
    rcases hx with ⟨h1, rfl⟩ | ⟨si, hsi, ex, ki, hki, ez, h1, rfl⟩
    · refine z_catch [] ⟨0, 13, 16, 27⟩ [⟨0, 13, 20, 19⟩] rfl (fun _ h => nomatch h) rfl (by decide) qK_La_27 qT_IOE_IOE (fun q9 => ?_)
      refine z_astore (L' := [(5, _), (0, _), (1, _), (2, _), (3, _), (4, _)]) d_La_share_16 (by decide) rfl ?_
      refine z_iconst (v := 1) d_La_share_18 (by decide) ?_
      exact z_iret rfl (by first | exact lTe.r hT3 hF3 ho1 ⟨hK3, Or.inl ⟨rfl, ht9⟩⟩ | exact lTe.x (by decide) hT4 hF4 hO ho1 ⟨hK4, Or.inr ⟨by decide, Or.inl ⟨h1, rfl⟩⟩⟩ | exact lTe.x (by decide) hT4 hF4 hO ho1 ⟨hK4, Or.inr ⟨by decide, Or.inr ⟨si, hsi, ex, ki, hki, ez, h1, rfl⟩⟩⟩) (by first | decide | omega) (by first | decide | omega) d_La_share_19
    · refine z_catch [⟨0, 13, 16, 27⟩] ⟨0, 13, 20, 19⟩ [] rfl (fun z hz => by
        simp only [List.mem_cons, List.not_mem_nil, or_false] at hz
        rcases hz with rfl
        · exact Or.inr ⟨by decide, _, qK_La_27, hNc.IAE_IOE⟩) rfl (by decide) qK_La_19 qT_IAE_IAE (fun q9 => ?_)
      refine z_astore (L' := [(5, _), (0, _), (1, _), (2, _), (3, _), (4, _)]) d_La_share_20 (by decide) rfl ?_
      refine z_iconst (v := 2) d_La_share_22 (by decide) ?_
      exact z_iret rfl (by first | exact lTe.r hT3 hF3 ho1 ⟨hK3, Or.inl ⟨rfl, ht9⟩⟩ | exact lTe.x (by decide) hT4 hF4 hO ho1 ⟨hK4, Or.inr ⟨by decide, Or.inl ⟨h1, rfl⟩⟩⟩ | exact lTe.x (by decide) hT4 hF4 hO ho1 ⟨hK4, Or.inr ⟨by decide, Or.inr ⟨si, hsi, ex, ki, hki, ez, h1, rfl⟩⟩⟩) (by first | decide | omega) (by first | decide | omega) d_La_share_23
  intro r_6 G_6 hp_6
  obtain ⟨⟨v9, rfl, ht9⟩, D3, V3, hT3, hK3, hF3⟩ := hp_6
  have hG_Ou := hF3 _ _ hOe (fun r hr => (ho1 r hr).symm)
  refine z_i2l d_La_share_9 rfl ?_
  refine z_putN zc_Ou 0 (by decide) qFn_La_13 hG_Ou rfl rfl rfl (Nat.le_of_ble_eq_true rfl) d_La_share_10 ?_
  refine z_goto 24 d_La_share_13 (by decide) ?_
  refine z_iconst (v := 0) d_La_share_24 (by decide) ?_
  exact z_iret rfl (by first | exact lTe.r hT3 hF3 ho1 ⟨hK3, Or.inl ⟨rfl, ht9⟩⟩ | exact lTe.x (by decide) hT4 hF4 hO ho1 ⟨hK4, Or.inr ⟨by decide, Or.inl ⟨h1, rfl⟩⟩⟩ | exact lTe.x (by decide) hT4 hF4 hO ho1 ⟨hK4, Or.inr ⟨by decide, Or.inr ⟨si, hsi, ex, ki, hki, ez, h1, rfl⟩⟩⟩) (by first | decide | omega) (by first | decide | omega) d_La_share_25
theorem j_share {d : zD} {V V' : Nat → Nat → Int32} {nk ns : Nat} {B : Nat → Nat} {W : Nat → Nat → Int32} {N ne ec : Nat} {G G1 : zG} {r : Option Value} {kk v : Int32} (h : zSM N V W nk ns ne) (hN : N < 2 ^ 20) (hnk : nk ≤ 8) (hns : ns ≤ 6) {x z w : Int32} (hC : cAs V (tSh V nk ns x z w) (pSh nk ns x z w) kk V' v) (hM : (mAq d B nk ns ne ec W G (rSh nk ns x z w)) r G1) : zJ d N V' nk ns nk ns B ne G kk v r G1 := by
  refine jAs h hC hM (fun W' t b h1 hT hc => ?_)
  rcases hc with ⟨rfl, si, hsi, rfl, ki, hki, rfl, a2, a3⟩ | ⟨hk, ⟨a1, rfl⟩ | ⟨si, hsi, rfl, ki, hki, rfl, a2, rfl⟩⟩
  · rcases hT with ⟨c1 | c1, -⟩ | ⟨s9, hs9, es, k9, hk9, ek, ⟨c2, -⟩ | ⟨-, t0, rfl⟩⟩
    · exact absurd ⟨si, hsi, rfl⟩ (zIx_2 (by omega) c1)
    · exact absurd ⟨ki, hki, rfl⟩ (zIx_2 (by omega) c1)
    · rw [a2] at c2; cases c2
    · obtain rfl : s9 = si := (nI_eq (by omega) (by omega)).mp es.symm
      obtain rfl : k9 = ki := (nI_eq (by omega) (by omega)).mp ek.symm
      exact ⟨t0.symm, fun _ => a3.trans (qSh_eq h1 hN hnk hsi hki w)⟩
  · rcases hT with ⟨-, rfl⟩ | ⟨s9, hs9, es, k9, hk9, ek, -⟩
    · exact ⟨rfl, fun q => absurd q hk⟩
    · rcases a1 with a1 | a1
      · exact absurd ⟨s9, hs9, es⟩ (zIx_1 (by omega) a1)
      · exact absurd ⟨k9, hk9, ek⟩ (zIx_1 (by omega) a1)
  · rcases hT with ⟨c1 | c1, -⟩ | ⟨s9, hs9, es, k9, hk9, ek, ⟨-, rfl⟩ | ⟨c2, -⟩⟩
    · exact absurd ⟨si, hsi, rfl⟩ (zIx_2 (by omega) c1)
    · exact absurd ⟨ki, hki, rfl⟩ (zIx_2 (by omega) c1)
    · exact ⟨rfl, fun q => absurd q hk⟩
    · rw [a2] at c2; cases c2


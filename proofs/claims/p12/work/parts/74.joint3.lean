
theorem zSM.wf {N : Nat} {V W : Nat → Nat → Int32} {nk ns ne : Nat} (h : zSM N V W nk ns ne) : ∀ si, si < ns → ∃ f, f < 4 ∧ W (200 + si) 4 = nI f := fun si hsi => by
  obtain ⟨s1, ⟨f, hf, e⟩, -⟩ := h.2.2.1 si hsi
  exact ⟨f, hf, (s1 4 (by decide)).symm.trans e⟩
theorem zb_l1 {v : Int32} {b : Bool} (h : v = zb b) (c : ¬ v = 0) : (1 : Int64) = v.toInt64 := by
  subst h
  rw [(zb_n0 _).mp c]
  decide
theorem zb_l0 {v : Int32} (c : v = 0) : (0 : Int64) = v.toInt64 := by
  subst c
  decide
theorem lTe.b {d : zD} {A : Nat → Nat} {D : Nat → UInt64} {V1 : Nat → Nat → Int32} {nk ns ho : Nat} {G G1 : zG} {P : Int32 → (Nat → Nat → Int32) → Int32 → Prop} {v : Int32} {n : Int64} {x : UInt64} {y : Value} (hn : n = v.toInt64) (hT : zT d A D V1 nk ns G1) (hF : tFr A nk ns G G1) (ho1 : ∀ r, tlive nk ns r → A r ≠ ho) (hP : P 0 V1 v) : lTe d A nk ns ho G P (some (.int 0)) (zu G1 ho (zob 9 [.long n, .double x, y])) := by
  subst hn
  exact lTe.r hT hF ho1 hP
theorem jAs {d : zD} {V V' : Nat → Nat → Int32} {nk ns : Nat} {B : Nat → Nat} {W : Nat → Nat → Int32} {N ne ec : Nat} {G G1 : zG} {r : Option Value} {kk v : Int32} (h : zSM N V W nk ns ne) {T P : Int32 → Prop} {TM : Int32 → Int32 → (Nat → Nat → Int32) → Prop} (hC : cAs V T P kk V' v) (hM : mAq d B nk ns ne ec W G TM r G1) (hE : ∀ (W' : Nat → Nat → Int32) (t b : Int32), zSM N V W' nk ns ne → TM t b W' → ((kk = 0 ∧ T v) ∨ (kk ≠ 0 ∧ P kk)) → kk = t ∧ (kk = 0 → v = b)) : zJ d N V' nk ns nk ns B ne G kk v r G1 := by
  obtain ⟨hK, hC⟩ := hC
  obtain ⟨b, W', rfl, t, m1, k1, m2⟩ := hM
  obtain ⟨e1, e2⟩ := hE W' _ b (h.m k1) t hC
  exact ⟨b, B, W', ne, ec, rfl, m1, mNw.rf, m2, ((h.c hK).m k1).up (by omega), e1, e2⟩

theorem qKe_eq {N : Nat} {V W : Nat → Nat → Int32} {nk ns ne : Nat} (h : zSM N V W nk ns ne) (hN : N < 2 ^ 20) (hnk : nk ≤ 8) {k q : Nat} (hk : k < nk) (hq : q < 7) : qKe V ns k (nI q) = mKeA W ns k q := by
  obtain ⟨⟨k1, k2, k3, k4, k5⟩, -⟩ := h.2.1 k hk
  have e5 : zcnt (fun i => decide (V (400 + i) k ≠ -1)) ns = zcnt (fun i => decide (W (300 + i) k ≠ -1)) ns := zcnt_congr ns fun i hi => by
    obtain ⟨-, -, E, hE, -, s4⟩ := h.2.2.1 i hi
    obtain ⟨t1, t2, t3⟩ := s4 k (by omega)
    rw [← t1]
    rcases t3 with ⟨u1, u2⟩ | ⟨-, s, e, hs, he, u1, u2⟩
    · rw [u1, u2]
    · rw [u1, u2, decide_eq_true (zSM.n1 s (by omega)), decide_eq_true (zSM.n1 e (by omega))]
  have e6 : zcnt (fun i => zstl (V (400 + i)) (V (200 + i) 3) k) ns = zcnt (fun i => zst (W (300 + i)) (W (400 + i)) (W (200 + i) 3) k) ns := zcnt_congr ns fun i hi => h.stl hN hi (by omega)
  unfold qKe mKeA
  rw [k1, k2, k3, k4, k5, e5, e6]
  have : q = 0 ∨ q = 1 ∨ q = 2 ∨ q = 3 ∨ q = 4 ∨ q = 5 ∨ q = 6 := by omega
  rcases this with rfl | rfl | rfl | rfl | rfl | rfl | rfl <;> rfl

set_option maxHeartbeats 4000000 in
set_option maxRecDepth 100000 in
theorem m_La_ofKeeperE {g0 : State} {d : zD} {l : Launch} {a0 : Array Value} (hs0 : zS0 d a0 g0) (hst : l.stackTraces = false) {G : zG} {A : Nat → Nat} {D : Nat → UInt64} {V : Nat → Nat → Int32} {nk ns : Nat} (hT : zT d A D V nk ns G) (hNc : zNc g0) {ho : Nat} (hO : zOut ho G) (ho1 : ∀ r, tlive nk ns r → A r ≠ ho) (x : Int32) (w : Int32) : zMetW g0 d l y_La_ofKeeper c_La_ofKeeper 5 ((Option.some Jvm.ClassFile.FieldType.int)) ([((0 : Nat), (11 : Nat), (14 : Nat), (27 : Nat)), ((0 : Nat), (11 : Nat), (18 : Nat), (19 : Nat))]) 14 5 116 [.ref (A 0), .int x, .int w, .ref ho] (G) (lTe d A nk ns ho G (cAs V (tKe V nk ns x w) (pKe nk x w))) (zNo) := by
  have hG_Tb := hT.tb
  have hnk : nk ≤ 8 := hT.2.1
  have hns : ns ≤ 6 := hT.2.2.1
  obtain ⟨on, ox, oy, hOe⟩ := id hO
  refine z_entryW hs0 hst (by decide) (Nat.le_of_ble_eq_true rfl) (fun p e s m args below meth c => ?_)
  refine z_aload_n 3 d_La_ofKeeper_0 rfl rfl ?_
  refine z_aload_n 0 d_La_ofKeeper_1 rfl rfl ?_
  refine z_iload_n 1 d_La_ofKeeper_2 rfl rfl ?_
  refine z_iload_n 2 d_La_ofKeeper_3 rfl rfl ?_
  refine z_callV ((m_Tb_ofKeeperE hs0 hst hT x w)) ym_Tb_ofKeeper qM_La_53 qI_Tb_ofKeeper qV_Tb_Tb_ofKeeper zc_Tb hT.tb d_La_ofKeeper_4 rfl (Nat.le_of_ble_eq_true rfl) ⟨by decide, by decide⟩ ⟨Nat.le_of_ble_eq_true rfl, Nat.le_of_ble_eq_true rfl⟩ ?_ ?_
  · intro E G9 hx
    obtain ⟨hx, D4, V4, hT4, hK4, hF4⟩ := hx
    rcases hx with ⟨h1, rfl⟩ | ⟨k9, hk9, ex, h1, rfl⟩
    · refine z_catch [] ⟨0, 11, 14, 27⟩ [⟨0, 11, 18, 19⟩] rfl (fun _ h => nomatch h) rfl (by decide) qK_La_27 qT_IOE_IOE (fun q9 => ?_)
      refine z_astore (L' := [(4, _), (0, _), (1, _), (2, _), (3, _)]) d_La_ofKeeper_14 (by decide) rfl ?_
      refine z_iconst (v := 1) d_La_ofKeeper_16 (by decide) ?_
      exact z_iret rfl (by first | exact lTe.r hT3 hF3 ho1 ⟨hK3, Or.inl ⟨rfl, ht9⟩⟩ | exact lTe.x (by decide) hT4 hF4 hO ho1 ⟨hK4, Or.inr ⟨by decide, Or.inl ⟨h1, rfl⟩⟩⟩ | exact lTe.x (by decide) hT4 hF4 hO ho1 ⟨hK4, Or.inr ⟨by decide, Or.inr ⟨k9, hk9, ex, h1, rfl⟩⟩⟩) (by first | decide | omega) (by first | decide | omega) d_La_ofKeeper_17
    · refine z_catch [⟨0, 11, 14, 27⟩] ⟨0, 11, 18, 19⟩ [] rfl (fun z hz => by
        simp only [List.mem_cons, List.not_mem_nil, or_false] at hz
        rcases hz with rfl
        · exact Or.inr ⟨by decide, _, qK_La_27, hNc.IAE_IOE⟩) rfl (by decide) qK_La_19 qT_IAE_IAE (fun q9 => ?_)
      refine z_astore (L' := [(4, _), (0, _), (1, _), (2, _), (3, _)]) d_La_ofKeeper_18 (by decide) rfl ?_
      refine z_iconst (v := 2) d_La_ofKeeper_20 (by decide) ?_
      exact z_iret rfl (by first | exact lTe.r hT3 hF3 ho1 ⟨hK3, Or.inl ⟨rfl, ht9⟩⟩ | exact lTe.x (by decide) hT4 hF4 hO ho1 ⟨hK4, Or.inr ⟨by decide, Or.inl ⟨h1, rfl⟩⟩⟩ | exact lTe.x (by decide) hT4 hF4 hO ho1 ⟨hK4, Or.inr ⟨by decide, Or.inr ⟨k9, hk9, ex, h1, rfl⟩⟩⟩) (by first | decide | omega) (by first | decide | omega) d_La_ofKeeper_21
  intro r_4 G_4 hp_4
  obtain ⟨⟨v9, rfl, ht9⟩, D3, V3, hT3, hK3, hF3⟩ := hp_4
  have hG_Ou := hF3 _ _ hOe (fun r hr => (ho1 r hr).symm)
  refine z_i2l d_La_ofKeeper_7 rfl ?_
  refine z_putN zc_Ou 0 (by decide) qFn_La_13 hG_Ou rfl rfl rfl (Nat.le_of_ble_eq_true rfl) d_La_ofKeeper_8 ?_
  refine z_goto 22 d_La_ofKeeper_11 (by decide) ?_
  refine z_iconst (v := 0) d_La_ofKeeper_22 (by decide) ?_
  exact z_iret rfl (by first | exact lTe.r hT3 hF3 ho1 ⟨hK3, Or.inl ⟨rfl, ht9⟩⟩ | exact lTe.x (by decide) hT4 hF4 hO ho1 ⟨hK4, Or.inr ⟨by decide, Or.inl ⟨h1, rfl⟩⟩⟩ | exact lTe.x (by decide) hT4 hF4 hO ho1 ⟨hK4, Or.inr ⟨by decide, Or.inr ⟨k9, hk9, ex, h1, rfl⟩⟩⟩) (by first | decide | omega) (by first | decide | omega) d_La_ofKeeper_23
theorem j_ofKeeper {d : zD} {V V' : Nat → Nat → Int32} {nk ns : Nat} {B : Nat → Nat} {W : Nat → Nat → Int32} {N ne ec : Nat} {G G1 : zG} {r : Option Value} {kk v : Int32} (h : zSM N V W nk ns ne) (hN : N < 2 ^ 20) (hnk : nk ≤ 8) (hns : ns ≤ 6) {x w : Int32} (hC : cAs V (tKe V nk ns x w) (pKe nk x w) kk V' v) (hM : (mAq d B nk ns ne ec W G (rKe nk ns x w)) r G1) : zJ d N V' nk ns nk ns B ne G kk v r G1 := by
  refine jAs h hC hM (fun W' t b h1 hT hc => ?_)
  rcases hc with ⟨rfl, k, hk, rfl, a2, a3⟩ | ⟨hz, ⟨a1, rfl⟩ | ⟨k, hk, rfl, a2, rfl⟩⟩
  · rcases hT with ⟨c1, -⟩ | ⟨k9, hk9, ek, ⟨c2, -⟩ | ⟨q, hq, rfl, t0, rfl⟩⟩
    · exact absurd ⟨k, hk, rfl⟩ (zIx_2 (by omega) c1)
    · rw [a2] at c2; cases c2
    · obtain rfl : k9 = k := (nI_eq (by omega) (by omega)).mp ek.symm
      exact ⟨t0.symm, fun _ => a3.trans (qKe_eq h1 hN hnk hk hq)⟩
  · rcases hT with ⟨-, rfl⟩ | ⟨k9, hk9, ek, -⟩
    · exact ⟨rfl, fun q => absurd q hz⟩
    · exact absurd ⟨k9, hk9, ek⟩ (zIx_1 (by omega) a1)
  · rcases hT with ⟨c1, -⟩ | ⟨k9, hk9, ek, ⟨-, rfl⟩ | ⟨q, hq, rfl, -⟩⟩
    · exact absurd ⟨k, hk, rfl⟩ (zIx_2 (by omega) c1)
    · exact ⟨rfl, fun q => absurd q hz⟩
    · exfalso
      have : zin (nI q) 0 6 = true := zin_ok (n := 6) (by omega) (by decide)
      rw [this] at a2; cases a2


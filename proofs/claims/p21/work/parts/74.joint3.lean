
/-- the law's sight of an asked double -/
def lTd (d : zD) (A : Nat → Nat) (nk ns ho : Nat) (G : zG) (P : Int32 → (Nat → Nat → Int32) → UInt64 → Prop) : Option Value → zG → Prop := fun r G1 => ∃ (kk : Int32) (D' : Nat → UInt64) (V' : Nat → Nat → Int32) (u : UInt64), r = some (.int kk) ∧ P kk V' u ∧ zT d A D' V' nk ns G1 ∧ zOut ho G1 ∧ lFr A nk ns ho G G1 ∧ (kk = 0 → ∃ (n : Int64) (y : Value), G1 ho = some (zob 9 [.long n, .double u, y]))
section LTD
variable {d : zD} {A : Nat → Nat} {D : Nat → UInt64} {V V1 : Nat → Nat → Int32} {nk ns ho : Nat} {G G1 : zG}
theorem lTd.x {P : Int32 → (Nat → Nat → Int32) → UInt64 → Prop} {k : Int32} (hk : k ≠ 0) (hT : zT d A D V1 nk ns G1) (hF : tFr A nk ns G G1) (hO : zOut ho G) (ho1 : ∀ r, tlive nk ns r → A r ≠ ho) (hP : P k V1 0) : lTd d A nk ns ho G P (some (.int k)) G1 := by
  obtain ⟨n, x, y, e⟩ := hO
  exact ⟨k, D, V1, 0, rfl, hP, hT, ⟨n, x, y, hF _ _ e (fun r hr => (ho1 r hr).symm)⟩, lFr.of hF, fun q => absurd q hk⟩
theorem lTd.r {P : Int32 → (Nat → Nat → Int32) → UInt64 → Prop} {n : Int64} {u : UInt64} {y : Value} (hT : zT d A D V1 nk ns G1) (hF : tFr A nk ns G G1) (ho1 : ∀ r, tlive nk ns r → A r ≠ ho) (hP : P 0 V1 u) : lTd d A nk ns ho G P (some (.int 0)) (zu G1 ho (zob 9 [.long n, .double u, y])) :=
  ⟨0, D, V1, u, rfl, hP, hT.out ho1, ⟨_, _, _, zu_s⟩, (lFr.of hF).nw, fun _ => ⟨_, _, zu_s⟩⟩
end LTD
def cLo (V : Nat → Nat → Int32) (nk ns : Nat) (x kk : Int32) (V' : Nat → Nat → Int32) (u : UInt64) : Prop := zKo V V' ∧ ((kk = 0 ∧ tLo V nk ns x u) ∨ (kk ≠ 0 ∧ zoo ns x ∧ kk = 1))
theorem dcmp_z {a : UInt64} (h : zmg a 1400) (op : CmpOp) : Op.cmpValue (FP.dcmp a a) op = 0 := by
  have h1 : FP.Core.val64 a ≠ .nan := (FP.Core.ne_nan a).mpr (by unfold zmg at h; omega)
  have h2 : FP.dcmp a a = some .eq := FP.Core.dcmp_self h1
  rw [h2]
  rfl
theorem dcmp_z2 {a b : UInt64} (h : a = b ∧ zmg a 1400) (op : CmpOp) : Op.cmpValue (FP.dcmp a b) op = 0 := by
  obtain ⟨rfl, h⟩ := h
  exact dcmp_z h op
theorem zL.ond {d : zD} {ho : Nat} {A : Nat → Nat} {D : Nat → UInt64} {V : Nat → Nat → Int32} {nk ns : Nat} {B : Nat → Nat} {W : Nat → Nat → Int32} {nk2 ns2 ne ec : Nat} {G G1 : zG} {u : UInt64} (hN : ∃ (n : Int64) (y : Value), G ho = some (zob 9 [.long n, .double u, y])) (h : zL d ho A D V nk ns B W nk2 ns2 ne ec G) (hF : mFr B nk2 ns2 ne G G1) : ∃ (n : Int64) (y : Value), G1 ho = some (zob 9 [.long n, .double u, y]) := by
  obtain ⟨n, y, e⟩ := hN
  exact ⟨n, y, hF _ _ e (fun q hq => (h.2.2.2.2.2 q hq).symm)⟩
theorem qLo_eq {N : Nat} {V W : Nat → Nat → Int32} {nk ns ne : Nat} (h : zSM N V W nk ns ne) (hN : N < 2 ^ 20) (hnk : nk ≤ 8) {si : Nat} (hsi : si < ns) : qLo V nk si = mLo W nk si := by
  obtain ⟨s1, -⟩ := h.2.2.1 si hsi
  unfold qLo mLo
  rw [s1 0 (by decide), zlsF_congr (g := zgd (W (300 + si)) (W (400 + si)) (W (200 + si) 3)) (q := fun k => W (100 + k) 2) nk (fun k hk => ⟨h.cur hN hsi (by omega), (h.2.1 k hk).1.2.2.1⟩)]
theorem j_lost {d : zD} {V V' : Nat → Nat → Int32} {nk ns : Nat} {B : Nat → Nat} {W : Nat → Nat → Int32} {N ne ec : Nat} {G G1 : zG} {r : Option Value} {x kk : Int32} {u : UInt64} (h : zSM N V W nk ns ne) (hN : N < 2 ^ 20) (hnk : nk ≤ 8) (hns : ns ≤ 6) (hC : cLo V nk ns x kk V' u) (hM : (mAqd d B nk ns ne ec W G (rLo nk ns x)) r G1) : ∃ (b : UInt64) (W' : Nat → Nat → Int32), r = some (.double b) ∧ zM d B W' nk ns ne ec G1 ∧ mFr B nk ns ne G G1 ∧ zSM (N + 1) V' W' nk ns ne ∧ kk = W' 0 0 ∧ (kk = 0 → u = b ∧ zmg u 1400) := by
  obtain ⟨hK, hC⟩ := hC
  obtain ⟨b, W', rfl, hT, m1, k1, m2⟩ := hM
  have h1 := h.m k1
  refine ⟨b, W', rfl, m1, m2, ((h.c hK).m k1).up (by omega), ?_⟩
  rcases hC with ⟨rfl, hu, si, hsi, rfl, eu⟩ | ⟨hz, a1, rfl⟩
  · rcases hT with ⟨c1, -⟩ | ⟨k9, hk9, ek, t0, rfl⟩
    · exact absurd ⟨si, hsi, rfl⟩ (zIx_2 (by omega) c1)
    · obtain rfl : k9 = si := (nI_eq (by omega) (by omega)).mp ek.symm
      exact ⟨t0.symm, fun _ => ⟨eu.trans (qLo_eq h1 hN hnk hsi), hu⟩⟩
  · rcases hT with ⟨-, t0⟩ | ⟨k9, hk9, ek, -⟩
    · exact ⟨t0.symm, fun q => absurd q hz⟩
    · exact absurd ⟨k9, hk9, ek⟩ (zIx_1 (by omega) a1)

set_option maxHeartbeats 4000000 in
set_option maxRecDepth 100000 in
theorem m_La_lostE {g0 : State} {d : zD} {l : Launch} {a0 : Array Value} (hs0 : zS0 d a0 g0) (hst : l.stackTraces = false) {G : zG} {A : Nat → Nat} {D : Nat → UInt64} {V : Nat → Nat → Int32} {nk ns : Nat} (hT : zT d A D V nk ns G) (hNc : zNc g0) {ho : Nat} (hO : zOut ho G) (ho1 : ∀ r, tlive nk ns r → A r ≠ ho) (x : Int32) : zMetW g0 d l y_La_lost c_La_lost 4 ((Option.some Jvm.ClassFile.FieldType.int)) ([((0 : Nat), (9 : Nat), (12 : Nat), (27 : Nat))]) 13 5 116 [.ref (A 0), .int x, .ref ho] (G) (lTd d A nk ns ho G (cLo V nk ns x)) (zNo) := by
  have hG_Tb := hT.tb
  have hnk : nk ≤ 8 := hT.2.1
  have hns : ns ≤ 6 := hT.2.2.1
  obtain ⟨on, ox, oy, hOe⟩ := id hO
  refine z_entryW hs0 hst (by decide) (Nat.le_of_ble_eq_true rfl) (fun p e s m args below meth c => ?_)
  refine z_aload_n 2 d_La_lost_0 rfl rfl ?_
  refine z_aload_n 0 d_La_lost_1 rfl rfl ?_
  refine z_iload_n 1 d_La_lost_2 rfl rfl ?_
  refine z_callV ((m_Tb_lostE hs0 hst hT x)) ym_Tb_lost qM_La_86 qI_Tb_lost qV_Tb_Tb_lost zc_Tb hT.tb d_La_lost_3 rfl (Nat.le_of_ble_eq_true rfl) ⟨by decide, by decide⟩ ⟨Nat.le_of_ble_eq_true rfl, Nat.le_of_ble_eq_true rfl⟩ ?_ ?_
  · intro E G9 hx
    obtain ⟨⟨h1, rfl⟩, D4, V4, hT4, hK4, hF4⟩ := hx
    skip
    · refine z_catch [] ⟨0, 9, 12, 27⟩ [] rfl (fun _ h => nomatch h) rfl (by decide) qK_La_27 qT_IOE_IOE (fun q9 => ?_)
      refine z_astore_n (L' := [(3, _), (0, _), (1, _), (2, _)]) d_La_lost_12 rfl (by decide) rfl ?_
      refine z_iconst (v := 1) d_La_lost_13 (by decide) ?_
      exact z_iret rfl (by first | exact lTd.r hT3 hF3 ho1 ⟨hK3, Or.inl ⟨rfl, ht9⟩⟩ | exact lTd.x (by decide) hT4 hF4 hO ho1 ⟨hK4, Or.inr ⟨by decide, h1, rfl⟩⟩) (by first | decide | omega) (by first | decide | omega) d_La_lost_14
  intro r_3 G_3 hp_3
  obtain ⟨⟨u9, rfl, ht9⟩, D3, V3, hT3, hK3, hF3⟩ := hp_3
  have hG_Ou := hF3 _ _ hOe (fun r hr => (ho1 r hr).symm)
  refine z_putN zc_Ou 1 (by decide) qFn_La_90 hG_Ou rfl rfl rfl (Nat.le_of_ble_eq_true rfl) d_La_lost_6 ?_
  refine z_goto 15 d_La_lost_9 (by decide) ?_
  refine z_iconst (v := 0) d_La_lost_15 (by decide) ?_
  exact z_iret rfl (by first | exact lTd.r hT3 hF3 ho1 ⟨hK3, Or.inl ⟨rfl, ht9⟩⟩ | exact lTd.x (by decide) hT4 hF4 hO ho1 ⟨hK4, Or.inr ⟨by decide, h1, rfl⟩⟩) (by first | decide | omega) (by first | decide | omega) d_La_lost_16

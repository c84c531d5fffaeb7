
theorem zSM.wf {N : Nat} {V W : Nat → Nat → Int32} {nk ns ne : Nat} (h : zSM N V W nk ns ne) : ∀ si, si < ns → ∃ f, f < 4 ∧ W (200 + si) 4 = nI f := fun si hsi => by
  obtain ⟨s1, ⟨f, hf, e⟩, -⟩ := h.2.2.1 si hsi
  exact ⟨f, hf, (s1 4 (by decide)).symm.trans e⟩
theorem zb_l1 {v : Int32} {b : Bool} (h : v = zb b) (c : ¬ v = 0) : (1 : Int64) = v.toInt64 := by
  subst h
  rw [(zb_n0 _).mp c]
  decide
theorem zb_l0 {v : Int32} (c : v = 0) : (0 : Int64) = v.toInt64 := by
  subst c
  decide
theorem lTe.b {d : zD} {A : Nat → Nat} {D : Nat → UInt64} {V1 : Nat → Nat → Int32} {nk ns ho : Nat} {G G1 : zG} {P : Int32 → (Nat → Nat → Int32) → Int32 → Prop} {v : Int32} {n : Int64} {x : UInt64} {y : Value} (hn : n = v.toInt64) (hT : zT d A D V1 nk ns G1) (hF : tFr A nk ns G G1) (ho1 : ∀ r, tlive nk ns r → A r ≠ ho) (hP : P 0 V1 v) : lTe d A nk ns ho G P (some (.int 0)) (zu G1 ho (zob 9 [.long n, .double x, y])) := by
  subst hn
  exact lTe.r hT hF ho1 hP
theorem jAs {d : zD} {V V' : Nat → Nat → Int32} {nk ns : Nat} {B : Nat → Nat} {W : Nat → Nat → Int32} {N ne ec : Nat} {G G1 : zG} {r : Option Value} {kk v : Int32} (h : zSM N V W nk ns ne) {T P : Int32 → Prop} {TM : Int32 → Int32 → (Nat → Nat → Int32) → Prop} (hC : cAs V T P kk V' v) (hM : mAq d B nk ns ne ec W G TM r G1) (hE : ∀ (W' : Nat → Nat → Int32) (t b : Int32), zSM N V W' nk ns ne → TM t b W' → ((kk = 0 ∧ T v) ∨ (kk ≠ 0 ∧ P kk)) → kk = t ∧ (kk = 0 → v = b)) : zJ d N V' nk ns nk ns B ne G kk v r G1 := by
  obtain ⟨hK, hC⟩ := hC
  obtain ⟨b, W', rfl, t, m1, k1, m2⟩ := hM
  obtain ⟨e1, e2⟩ := hE W' _ b (h.m k1) t hC
  exact ⟨b, B, W', ne, ec, rfl, m1, mNw.rf, m2, ((h.c hK).m k1).up (by omega), e1, e2⟩

theorem zpri_lt {set : Int32} {p : Nat → Int32} : ∀ n, (∀ k, k < n → ∃ q, q ≤ 99 ∧ p k = nI q) → ∃ s, s ≤ 99 * n ∧ zpri set p n = nI s
  | 0, _ => ⟨0, by decide, rfl⟩
  | n + 1, h => by
    obtain ⟨s, hs, e⟩ := zpri_lt n (fun k hk => h k (by omega))
    obtain ⟨q, hq, e2⟩ := h n (by omega)
    unfold zpri
    split
    · rw [e, e2, nI_add]; exact ⟨s + q, by omega, rfl⟩
    · exact ⟨s, by omega, e⟩
theorem nI_subneg {a b : Nat} (ha : a < 2 ^ 20) (hb : b < 2 ^ 20) : nI a - nI b < 0 ↔ a < b := by
  rw [Int32.lt_iff_toInt_lt, pk_sub_toInt (by omega) (by omega), show (0 : Int32).toInt = 0 from rfl]
  omega
theorem nI_sub0 {a b : Nat} (ha : a < 2 ^ 20) (hb : b < 2 ^ 20) : nI a - nI b = 0 ↔ a = b := by
  rw [← Int32.toInt_inj, pk_sub_toInt (by omega) (by omega), show (0 : Int32).toInt = 0 from rfl]
  omega
theorem zpri_congr {set : Int32} {p q : Nat → Int32} : ∀ n, (∀ k, k < n → p k = q k) → zpri set p n = zpri set q n
  | 0, _ => rfl
  | n + 1, h => by
    unfold zpri
    rw [zpri_congr n (fun k hk => h k (by omega)), h n (by omega)]
theorem fw_le {s h : Nat} (hs : s < 256) (hh : h < 256) (e : nI s &&& (nI h ^^^ (-1)) = 0) : s ≤ h := by
  have h1 := (tb_sub (by omega) (by omega)).mp e
  have := zsN_le (f := fun k => s.testBit k) (g := fun k => h.testBit k) 8 (fun k hk h2 => h1 k (by omega) h2)
  rw [zsN_self8 s hs, zsN_self8 h hh] at this
  exact this
theorem qFw_eq {N : Nat} {V W : Nat → Nat → Int32} {nk ns ne : Nat} (h : zSM N V W nk ns ne) (hN : N < 2 ^ 20) (hnk : nk ≤ 8) {si : Nat} (hsi : si < ns) : qFw V nk si = mFw W nk si := by
  obtain ⟨s1, -⟩ := h.2.2.1 si hsi
  have eh : zsetN (zcur (V (400 + si)) (V (200 + si) 3)) 8 = zsetN (zgd (W (300 + si)) (W (400 + si)) (W (200 + si) 3)) 8 := zsN_congr 8 fun k hk => h.cur hN hsi hk
  have hl := (zset_N (zgd (W (300 + si)) (W (400 + si)) (W (200 + si) 3)) 8 (by decide)).2
  have hp : ∀ k, k < nk → V (100 + k) 2 = W (100 + k) 1 := fun k hk => (h.2.1 k hk).1.2.1
  have hb : ∀ k, k < nk → ∃ q, q ≤ 99 ∧ W (100 + k) 1 = nI q := fun k hk => by
    obtain ⟨-, ⟨-, p, -, p2, p3⟩, -⟩ := h.2.1 k hk
    exact ⟨p, p2, by rw [← hp k hk]; exact p3⟩
  have ec : ∀ s, s ≤ 255 → fwc V nk si s = fmc W nk si s := fun s hs => by
    unfold fwc fmc
    rw [eh, s1 0 (by decide), s1 1 (by decide), zbc_512 s (by omega), zzo_congr (g := fun k => W (100 + k) 0) nk (fun k hk => (h.2.1 k hk).1.1)]
  have el : ∀ s b, s ≤ 255 → b ≤ 255 → fwl V nk (nI s) (nI b) = fml W nk s b := fun s b hs hb2 => by
    have p1 := zpop_le s (by omega)
    have p2 := zpop_le b (by omega)
    obtain ⟨x, hx, ex⟩ := zpri_lt (set := nI s) (p := fun k => W (100 + k) 1) nk hb
    obtain ⟨y, hy, ey⟩ := zpri_lt (set := nI b) (p := fun k => W (100 + k) 1) nk hb
    unfold fwl fml
    rw [zbc_512 s (by omega), zbc_512 b (by omega), zpri_congr (set := nI s) nk hp, zpri_congr (set := nI b) nk hp, ex, ey]
    by_cases c : zpop 9 s = zpop 9 b
    · rw [if_pos (by rw [c]), decide_eq_false (p := nI (zpop 9 s) - nI (zpop 9 b) < 0) (fun q => by have := (nI_subneg (by omega) (by omega)).mp q; omega), decide_eq_true ((nI_sub0 (by omega) (by omega)).mpr c), Bool.false_or, Bool.true_and]
      exact decide_eq_decide.mpr ((nI_ltI (by omega) (by omega)).trans (nI_subneg (by omega) (by omega)).symm)
    · rw [if_neg (fun q => c ((nI_eq (by omega) (by omega)).mp q)), decide_eq_false (p := nI (zpop 9 s) - nI (zpop 9 b) = 0) (fun q => c ((nI_sub0 (by omega) (by omega)).mp q)), Bool.false_and, Bool.or_false]
  unfold qFw mFw
  rw [eh]
  refine congrArg nI ?_
  rw [zfB_congr (c2 := fmc W nk si) (l2 := fml W nk) _ (fun s _ h2 => ec s (by omega)) (fun s b _ h2 _ h4 => el s b (by omega) (by omega))]
  refine (zfB_ext 255 (by omega) (fun s h1 h2 => ?_)).symm
  unfold fmc
  exact fw_1 (fun q => by have := fw_le (by omega) (by omega) q; omega)

set_option maxHeartbeats 4000000 in
set_option maxRecDepth 100000 in
theorem m_La_fewestE {g0 : State} {d : zD} {l : Launch} {a0 : Array Value} (hs0 : zS0 d a0 g0) (hst : l.stackTraces = false) {G : zG} {A : Nat → Nat} {D : Nat → UInt64} {V : Nat → Nat → Int32} {nk ns : Nat} (hT : zT d A D V nk ns G) (hNc : zNc g0) {ho : Nat} (hO : zOut ho G) (ho1 : ∀ r, tlive nk ns r → A r ≠ ho) (x : Int32) : zMetW g0 d l y_La_fewest c_La_fewest 4 ((Option.some Jvm.ClassFile.FieldType.int)) ([((0 : Nat), (10 : Nat), (13 : Nat), (27 : Nat))]) 15 5 116 [.ref (A 0), .int x, .ref ho] (G) (lTe d A nk ns ho G (cAs V (tFw V nk ns x) (pFw ns x))) (zNo) := by
  have hG_Tb := hT.tb
  have hnk : nk ≤ 8 := hT.2.1
  have hns : ns ≤ 6 := hT.2.2.1
  obtain ⟨on, ox, oy, hOe⟩ := id hO
  refine z_entryW hs0 hst (by decide) (Nat.le_of_ble_eq_true rfl) (fun p e s m args below meth c => ?_)
  refine z_aload_n 2 d_La_fewest_0 rfl rfl ?_
  refine z_aload_n 0 d_La_fewest_1 rfl rfl ?_
  refine z_iload_n 1 d_La_fewest_2 rfl rfl ?_
  refine z_callV ((m_Tb_fewestE hs0 hst hT x)) ym_Tb_fewest qM_La_94 qI_Tb_fewest qV_Tb_Tb_fewest zc_Tb hT.tb d_La_fewest_3 rfl (Nat.le_of_ble_eq_true rfl) ⟨by decide, by decide⟩ ⟨Nat.le_of_ble_eq_true rfl, Nat.le_of_ble_eq_true rfl⟩ ?_ ?_
  · intro E G9 hx
    obtain ⟨hx, D4, V4, hT4, hK4, hF4⟩ := hx
    obtain ⟨h1, rfl⟩ := hx
    skip
    · refine z_catch [] ⟨0, 10, 13, 27⟩ [] rfl (fun _ h => nomatch h) rfl (by decide) qK_La_27 qT_IOE_IOE (fun q9 => ?_)
      refine z_astore_n (L' := [(3, _), (0, _), (1, _), (2, _)]) d_La_fewest_13 rfl (by decide) rfl ?_
      refine z_iconst (v := 1) d_La_fewest_14 (by decide) ?_
      exact z_iret rfl (by first | exact lTe.r hT3 hF3 ho1 ⟨hK3, Or.inl ⟨rfl, ht9⟩⟩ | exact lTe.x (by decide) hT4 hF4 hO ho1 ⟨hK4, Or.inr ⟨by decide, ⟨h1, rfl⟩⟩⟩) (by first | decide | omega) (by first | decide | omega) d_La_fewest_15
  intro r_3 G_3 hp_3
  obtain ⟨⟨v9, rfl, ht9⟩, D3, V3, hT3, hK3, hF3⟩ := hp_3
  have hG_Ou := hF3 _ _ hOe (fun r hr => (ho1 r hr).symm)
  refine z_i2l d_La_fewest_6 rfl ?_
  refine z_putN zc_Ou 0 (by decide) qFn_La_13 hG_Ou rfl rfl rfl (Nat.le_of_ble_eq_true rfl) d_La_fewest_7 ?_
  refine z_goto 16 d_La_fewest_10 (by decide) ?_
  refine z_iconst (v := 0) d_La_fewest_16 (by decide) ?_
  exact z_iret rfl (by first | exact lTe.r hT3 hF3 ho1 ⟨hK3, Or.inl ⟨rfl, ht9⟩⟩ | exact lTe.x (by decide) hT4 hF4 hO ho1 ⟨hK4, Or.inr ⟨by decide, ⟨h1, rfl⟩⟩⟩) (by first | decide | omega) (by first | decide | omega) d_La_fewest_17
theorem j_fewest {d : zD} {V V' : Nat → Nat → Int32} {nk ns : Nat} {B : Nat → Nat} {W : Nat → Nat → Int32} {N ne ec : Nat} {G G1 : zG} {r : Option Value} {kk v : Int32} (h : zSM N V W nk ns ne) (hN : N < 2 ^ 20) (hnk : nk ≤ 8) (hns : ns ≤ 6) {x : Int32} (hC : cAs V (tFw V nk ns x) (pFw ns x) kk V' v) (hM : (mAq d B nk ns ne ec W G (rFw nk ns x)) r G1) : zJ d N V' nk ns nk ns B ne G kk v r G1 := by
  refine jAs h hC hM (fun W' t b h1 hT hc => ?_)
  rcases hc with ⟨rfl, k, hk, rfl, a3⟩ | ⟨hz, a1, rfl⟩
  · rcases hT with ⟨c1, -⟩ | ⟨k9, hk9, ek, t0, rfl⟩
    · exact absurd ⟨k, hk, rfl⟩ (zIx_2 (by omega) c1)
    · obtain rfl : k9 = k := (nI_eq (by omega) (by omega)).mp ek.symm
      exact ⟨t0.symm, fun _ => a3.trans (qFw_eq h1 hN hnk hk)⟩
  · rcases hT with ⟨-, rfl⟩ | ⟨k9, hk9, ek, -⟩
    · exact ⟨rfl, fun q => absurd q hz⟩
    · exact absurd ⟨k9, hk9, ek⟩ (zIx_1 (by omega) a1)


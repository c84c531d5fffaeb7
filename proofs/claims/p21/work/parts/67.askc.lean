
/-! what is asked, exactly: the class's answer by T, what is thrown by P; the reference's by T -/
def cAs (V : Nat → Nat → Int32) (T P : Int32 → Prop) (kk : Int32) (V' : Nat → Nat → Int32) (v : Int32) : Prop := zKo V V' ∧ ((kk = 0 ∧ T v) ∨ (kk ≠ 0 ∧ P kk))
def mAq (d : zD) (B : Nat → Nat) (nk ns ne ec : Nat) (V : Nat → Nat → Int32) (G : zG) (T : Int32 → Int32 → (Nat → Nat → Int32) → Prop) : Option Value → zG → Prop := fun r G1 => ∃ (v : Int32) (W' : Nat → Nat → Int32), r = some (.int v) ∧ T (W' 0 0) v W' ∧ zM d B W' nk ns ne ec G1 ∧ zKn V W' ∧ mFr B nk ns ne G G1

/-- the chances, one keeper more -/
def zrk (x : Int32) (f : Nat → UInt64) : Nat → UInt64
  | 0 => FP.ddiv (FP.dmul (f 0) (FP.i2d x)) 4636737291354636288
  | n + 1 => FP.dadd (FP.ddiv (FP.dmul (f (n + 1)) (FP.i2d x)) 4636737291354636288) (FP.ddiv (FP.dmul (f n) (FP.i2d (100 - x))) 4636737291354636288)
def zlo0 : Nat → UInt64
  | 0 => 4607182418800017408
  | _ + 1 => 0
def zlsF (c : Nat → Bool) (r : Nat → Int32) : Nat → Nat → UInt64
  | 0 => zlo0
  | i + 1 => if c i = true then zrk (r i) (zlsF c r i) else zlsF c r i
def zls (f : Nat → UInt64) : Nat → UInt64
  | 0 => 0
  | n + 1 => FP.dadd (zls f n) (f n)
theorem zlo0_n {i : Nat} (h : i ≠ 0) : zlo0 i = 0 := by
  cases i with
  | zero => exact absurd rfl h
  | succ i => rfl
theorem zrk_p {x : Int32} {f : Nat → UInt64} {i : Nat} (h : 1 ≤ i) : zrk x f i = FP.dadd (FP.ddiv (FP.dmul (f i) (FP.i2d x)) 4636737291354636288) (FP.ddiv (FP.dmul (f (i - 1)) (FP.i2d (100 - x))) 4636737291354636288) := by
  cases i with
  | zero => exact absurd h (by decide)
  | succ i => rfl
theorem zrk_congr {x : Int32} {f g : Nat → UInt64} (h : ∀ j, j < 9 → f j = g j) : ∀ j, j < 9 → zrk x f j = zrk x g j := fun j hj => by
  cases j with
  | zero =>
    show FP.ddiv (FP.dmul (f 0) (FP.i2d x)) 4636737291354636288 = FP.ddiv (FP.dmul (g 0) (FP.i2d x)) 4636737291354636288
    rw [h 0 (by decide)]
  | succ j =>
    show FP.dadd (FP.ddiv (FP.dmul (f (j + 1)) (FP.i2d x)) 4636737291354636288) (FP.ddiv (FP.dmul (f j) (FP.i2d (100 - x))) 4636737291354636288) = FP.dadd (FP.ddiv (FP.dmul (g (j + 1)) (FP.i2d x)) 4636737291354636288) (FP.ddiv (FP.dmul (g j) (FP.i2d (100 - x))) 4636737291354636288)
    rw [h (j + 1) hj, h j (by omega)]
theorem zlsF_t {c : Nat → Bool} {r : Nat → Int32} {i : Nat} (h : c i = true) : zlsF c r (i + 1) = zrk (r i) (zlsF c r i) := if_pos h
theorem zlsF_f {c : Nat → Bool} {r : Nat → Int32} {i : Nat} (h : c i = false) : zlsF c r (i + 1) = zlsF c r i := if_neg (by rw [h]; decide)
theorem zlsF_congr {c g : Nat → Bool} {r q : Nat → Int32} : ∀ n, (∀ k, k < n → c k = g k ∧ r k = q k) → zlsF c r n = zlsF g q n
  | 0, _ => rfl
  | n + 1, h => by
    unfold zlsF
    rw [zlsF_congr n (fun k hk => h k (by omega)), (h n (by omega)).1, (h n (by omega)).2]

def qLo (V : Nat → Nat → Int32) (nk si : Nat) : UInt64 := zls (zlsF (zcur (V (400 + si)) (V (200 + si) 3)) (fun k => V (100 + k) 3) nk) (V (200 + si) 0).toNatClampNeg
def tLo (V : Nat → Nat → Int32) (nk ns : Nat) (x : Int32) (u : UInt64) : Prop := zmg u 1400 ∧ ∃ si, si < ns ∧ x = nI si ∧ u = qLo V nk si

set_option maxHeartbeats 4000000 in
set_option maxRecDepth 100000 in
theorem m_Tb_riskOneE {g0 : State} {d : zD} {l : Launch} {a0 : Array Value} (hs0 : zS0 d a0 g0) (hst : l.stackTraces = false) {G : zG} {A : Nat → Nat} {D : Nat → UInt64} {V : Nat → Nat → Int32} {nk ns : Nat} (hT : zT d A D V nk ns G) (x : Int32) {K : Nat} (hK : 1024 ≤ K) (hK2 : K ≤ 1700) (hD : ∀ j, j < 9 → zmg (D j) K) : zMet g0 d l y_Tb_riskOne c_Tb_riskOne 3 ((Option.none : Option Jvm.ClassFile.FieldType)) 1 0 0 [.ref (A 0), .int x] (G) (fun r G1 => r = none ∧ ∃ D', zT d A D' V nk ns G1 ∧ (∀ j, j < 9 → zmg (D' j) (K + 35)) ∧ (∀ j, j < 9 → D' j = zrk x D j) ∧ tFr A nk ns G G1) (zNo) := by
  have hG_Tb := hT.tb
  have hnk : nk ≤ 8 := hT.2.1
  have hns : ns ≤ 6 := hT.2.2.1
  refine z_entry hs0 hst (by decide) (Nat.le_of_ble_eq_true rfl) (fun p e s m args below meth c => ?_)
  refine z_aload_n 0 d_Tb_riskOne_0 rfl rfl ?_
  refine z_get zc_Tb 5 (by decide) qF_Tb_40 hT.tb rfl d_Tb_riskOne_1 ?_
  refine z_alenD hT.ch d_Tb_riskOne_4 ?_
  refine z_iconst (v := 1) d_Tb_riskOne_5 (by decide) ?_
  refine z_isub d_Tb_riskOne_6 ?_
  refine z_topv (v := nI 8) (by decide) ?_
  refine z_istore_n (L' := [(2, _), (0, _), (1, _)]) d_Tb_riskOne_7 rfl (by decide) rfl ?_
  have key_8 : ∀ (n : Nat) (i : Nat) (G2 : zG) (D2 : Nat → UInt64), i < n → (i ≤ 8) → (zT d A D2 V nk ns G2) → (tFr A nk ns G G2) → (∀ j, j < 9 → zmg (D2 j) (K + 35)) → (∀ j, j ≤ i → zmg (D2 j) K) → (∀ j, j < 9 → D2 j = if i < j then zrk x D j else D j) → Z g0 d y_Tb_riskOne c_Tb_riskOne 3 ((Option.none : Option Jvm.ClassFile.FieldType)) [] p l e (zR 1 0 0) s m args below meth c (vx_MQ below (zQc g0 d (fun r G1 => r = none ∧ ∃ D', zT d A D' V nk ns G1 ∧ (∀ j, j < 9 → zmg (D' j) (K + 35)) ∧ (∀ j, j < 9 → D' j = zrk x D j) ∧ tFr A nk ns G G1)) (zXc g0 d (zNo)) args s 0 0 (zA g0)) 0 0 (G2) [(2, .int (nI i)), (0, .ref (A 0)), (1, .int x)] [] 8 := by
    intro n
    induction n with
    | zero => intro i G2 D2 h0; exact absurd h0 (Nat.not_lt_zero _)
    | succ n ih_8 =>
      intro i G2 D2 hm_8 hi hT2 hF2 hm1 hm2 hx9
      refine z_iload_n 0 d_Tb_riskOne_8 rfl rfl ?_
      refine z_iconst (v := 1) d_Tb_riskOne_9 (by decide) ?_
      refine z_icmp_lt 57 d_Tb_riskOne_10 (by decide) (fun c_10 => ?_) (fun c_10 => ?_)
      · skip
        have m0 := zmg_m (hm2 0 (by omega)) (zmg_i x) (by omega) (by omega)
        have v0 := zmg_d m0 (by omega) (by omega)
        have hi0 : i = 0 := by
          have := (nI_ltI (a := i) (b := 1) (by omega) (by decide)).mp c_10
          omega
        refine z_aload_n 1 d_Tb_riskOne_57 rfl rfl ?_
        refine z_get zc_Tb 5 (by decide) qF_Tb_40 hT2.tb rfl d_Tb_riskOne_58 ?_
        refine z_alenD hT2.ch d_Tb_riskOne_61 ?_
        refine z_if_le 84 d_Tb_riskOne_62 (by decide) (fun c_62 => absurd c_62 (by decide)) (fun c_62 => ?_)
        refine z_aload_n 1 d_Tb_riskOne_65 rfl rfl ?_
        refine z_get zc_Tb 5 (by decide) qF_Tb_40 hT2.tb rfl d_Tb_riskOne_66 ?_
        refine z_iconst (v := (nI 0)) d_Tb_riskOne_69 (by decide) ?_
        refine z_aload_n 1 d_Tb_riskOne_70 rfl rfl ?_
        refine z_get zc_Tb 5 (by decide) qF_Tb_40 hT2.tb rfl d_Tb_riskOne_71 ?_
        refine z_iconst (v := (nI 0)) d_Tb_riskOne_74 (by decide) ?_
        refine z_daldN hT2.ch ((show 0 < 9 by decide)) (by decide) d_Tb_riskOne_75 ?_
        refine z_iload_n 2 d_Tb_riskOne_76 rfl rfl ?_
        refine z_i2d d_Tb_riskOne_77 ?_
        refine z_dmul d_Tb_riskOne_78 (m0.nn (by omega)) ?_
        refine z_ldc2d qXd_Tb_381 d_Tb_riskOne_79 ?_
        refine z_ddiv d_Tb_riskOne_82 (v0.nn (by omega)) ?_
        refine z_dastN hT2.ch ((show 0 < 9 by decide)) (by decide) d_Tb_riskOne_83 ?_
        exact z_vret rfl (⟨rfl, _, hT2.putD _, fun j hj => by
            by_cases ej : j = 0
            · subst ej; rw [vu_s]; exact v0.mono (by omega)
            · rw [vu_n ej]; exact hm1 j hj, fun j hj => by
            by_cases ej : j = 0
            · subst ej
              have h1 := hx9 0 (by decide)
              rw [if_neg (by omega)] at h1
              rw [vu_s, h1]
              rfl
            · rw [vu_n ej, hx9 j hj, if_pos (by omega)], hF2.tr (zT.frput (tl_s 15) rfl)⟩) (by first | decide | omega) (by first | decide | omega) d_Tb_riskOne_84
      · skip
        have hi1 : 1 ≤ i := Nat.le_of_not_lt fun q => c_10 ((nI_ltI (a := i) (b := 1) (by omega) (by decide)).mpr q)
        have m1 := zmg_m (hm2 i (by omega)) (zmg_i x) (by omega) (by omega)
        have v1 := zmg_d m1 (by omega) (by omega)
        have m2 := zmg_m (hm2 (i - 1) (by omega)) (zmg_i (100 - x)) (by omega) (by omega)
        have v2 := zmg_d m2 (by omega) (by omega)
        have ms := zmg_a v1 v2 (by omega)
        refine z_aload_n 1 d_Tb_riskOne_13 rfl rfl ?_
        refine z_get zc_Tb 5 (by decide) qF_Tb_40 hT2.tb rfl d_Tb_riskOne_14 ?_
        refine z_iload_n 0 d_Tb_riskOne_17 rfl rfl ?_
        refine z_aload_n 1 d_Tb_riskOne_18 rfl rfl ?_
        refine z_get zc_Tb 5 (by decide) qF_Tb_40 hT2.tb rfl d_Tb_riskOne_19 ?_
        refine z_iload_n 0 d_Tb_riskOne_22 rfl rfl ?_
        refine z_daldN hT2.ch ((show i < 9 by omega)) (by decide) d_Tb_riskOne_23 ?_
        refine z_iload_n 2 d_Tb_riskOne_24 rfl rfl ?_
        refine z_i2d d_Tb_riskOne_25 ?_
        refine z_dmul d_Tb_riskOne_26 (m1.nn (by omega)) ?_
        refine z_ldc2d qXd_Tb_381 d_Tb_riskOne_27 ?_
        refine z_ddiv d_Tb_riskOne_30 (v1.nn (by omega)) ?_
        refine z_aload_n 1 d_Tb_riskOne_31 rfl rfl ?_
        refine z_get zc_Tb 5 (by decide) qF_Tb_40 hT2.tb rfl d_Tb_riskOne_32 ?_
        refine z_iload_n 0 d_Tb_riskOne_35 rfl rfl ?_
        refine z_iconst (v := 1) d_Tb_riskOne_36 (by decide) ?_
        refine z_isub d_Tb_riskOne_37 ?_
        refine z_topv (nI_s1 hi1 (by omega)) ?_
        refine z_daldN hT2.ch ((show i - 1 < 9 by omega)) (by decide) d_Tb_riskOne_38 ?_
        refine z_bipush (v := 100) d_Tb_riskOne_39 (by decide) ?_
        refine z_iload_n 2 d_Tb_riskOne_41 rfl rfl ?_
        refine z_isub d_Tb_riskOne_42 ?_
        refine z_i2d d_Tb_riskOne_43 ?_
        refine z_dmul d_Tb_riskOne_44 (m2.nn (by omega)) ?_
        refine z_ldc2d qXd_Tb_381 d_Tb_riskOne_45 ?_
        refine z_ddiv d_Tb_riskOne_48 (v2.nn (by omega)) ?_
        refine z_dadd d_Tb_riskOne_49 (ms.nn (by omega)) ?_
        refine z_dastN hT2.ch ((show i < 9 by omega)) (by decide) d_Tb_riskOne_50 ?_
        have hT3 := hT2.putD (vf_upd D2 i (FP.dadd (FP.ddiv (FP.dmul (D2 i) (FP.i2d x)) 4636737291354636288) (FP.ddiv (FP.dmul (D2 (i - 1)) (FP.i2d (100 - x))) 4636737291354636288)))
        refine z_iinc (v := nI (i - 1)) (L' := [(2, _), (0, _), (1, _)]) 0 d_Tb_riskOne_51 rfl ((z_m1 _).trans (nI_s1 hi1 (by omega))) (by decide) rfl ?_
        refine z_goto 8 d_Tb_riskOne_54 (by decide) ?_
        refine ih_8 (i - 1) _ _ (by omega) (by omega) hT3 (hF2.tr (zT.frput (tl_s 15) rfl)) (fun j hj => ?_) (fun j hj => ?_) (fun j hj => ?_)
        · by_cases ej : j = i
          · subst ej; rw [vu_s]; exact ms
          · rw [vu_n ej]; exact hm1 j hj
        · rw [vu_n (by omega)]; exact hm2 j (by omega)
        · by_cases ej : j = i
          · subst ej
            have h1 := hx9 j hj
            rw [if_neg (Nat.lt_irrefl j)] at h1
            have h2 := hx9 (j - 1) (by omega)
            rw [if_neg (by omega)] at h2
            rw [vu_s, if_pos (by omega), zrk_p hi1, h1, h2]
          · rw [vu_n ej, hx9 j hj]
            by_cases c : i < j
            · rw [if_pos c, if_pos (by omega)]
            · rw [if_neg c, if_neg (by omega)]
  exact key_8 9 8 G D (by omega) (by omega) hT zFr.rf (fun j hj => (hD j hj).mono (by omega)) (fun j hj => hD j (by omega)) (fun j hj => by rw [if_neg (by omega)])
set_option maxHeartbeats 4000000 in
set_option maxRecDepth 100000 in
theorem m_Tb_chanceLostE {g0 : State} {d : zD} {l : Launch} {a0 : Array Value} (hs0 : zS0 d a0 g0) (hst : l.stackTraces = false) {G : zG} {A : Nat → Nat} {D : Nat → UInt64} {V : Nat → Nat → Int32} {nk ns : Nat} (hT : zT d A D V nk ns G) {si : Nat} (hsi : si < ns) : zMet g0 d l y_Tb_chanceLost c_Tb_chanceLost 5 ((Option.some Jvm.ClassFile.FieldType.double)) 11 0 0 [.ref (A 0), .ref (A (200 + si))] (G) (zTu d A nk ns V G (fun r => r = some (.double (zls (zlsF (zcur (V (400 + si)) (V (200 + si) 3)) (fun k => V (100 + k) 3) nk) (V (200 + si) 0).toNatClampNeg)) ∧ zmg (zls (zlsF (zcur (V (400 + si)) (V (200 + si) 3)) (fun k => V (100 + k) 3) nk) (V (200 + si) 0).toNatClampNeg) 1400)) (zNo) := by
  have hG_Tb := hT.tb
  have hnk : nk ≤ 8 := hT.2.1
  have hns : ns ≤ 6 := hT.2.2.1
  obtain ⟨t, ht1, ht4, ht⟩ := hT.tn hsi
  refine z_entry hs0 hst (by decide) (Nat.le_of_ble_eq_true rfl) (fun p e s m args below meth c => ?_)
  refine z_iconst (v := (nI 0)) d_Tb_chanceLost_0 (by decide) ?_
  refine z_istore_n (L' := [(2, _), (0, _), (1, _)]) d_Tb_chanceLost_1 rfl (by decide) rfl ?_
  have key_2 : ∀ (n : Nat) (i : Nat) (G2 : zG) (D2 : Nat → UInt64), 9 - i < n → (i ≤ 9) → (zT d A D2 V nk ns G2) → (tFr A nk ns G G2) → (∀ j, j < i → zmg (D2 j) 1024) → (∀ j, j < i → D2 j = zlo0 j) → Z g0 d y_Tb_chanceLost c_Tb_chanceLost 5 ((Option.some Jvm.ClassFile.FieldType.double)) [] p l e (zR 11 0 0) s m args below meth c (vx_MQ below (zQc g0 d (zTu d A nk ns V G (fun r => r = some (.double (zls (zlsF (zcur (V (400 + si)) (V (200 + si) 3)) (fun k => V (100 + k) 3) nk) (V (200 + si) 0).toNatClampNeg)) ∧ zmg (zls (zlsF (zcur (V (400 + si)) (V (200 + si) 3)) (fun k => V (100 + k) 3) nk) (V (200 + si) 0).toNatClampNeg) 1400))) (zXc g0 d (zNo)) args s 0 0 (zA g0)) 0 0 (G2) [(2, .int (nI i)), (0, .ref (A 0)), (1, .ref (A (200 + si)))] [] 2 := by
    intro n
    induction n with
    | zero => intro i G2 D2 h0; exact absurd h0 (Nat.not_lt_zero _)
    | succ n ih_2 =>
      intro i G2 D2 hm_2 hi hT2 hF2 hm2 hx2
      refine z_iload_n 0 d_Tb_chanceLost_2 rfl rfl ?_
      refine z_aload_n 1 d_Tb_chanceLost_3 rfl rfl ?_
      refine z_get zc_Tb 5 (by decide) qF_Tb_40 hT2.tb rfl d_Tb_chanceLost_4 ?_
      refine z_alenD hT2.ch d_Tb_chanceLost_7 ?_
      refine z_icmp_ge 32 d_Tb_chanceLost_8 (by decide) (fun c_8 => ?_) (fun c_8 => ?_)
      · skip
        obtain rfl : i = 9 := by
          have := (nI_leI (a := 9) (b := i) (by decide) (by omega)).mp c_8
          omega
        refine z_iconst (v := (nI 0)) d_Tb_chanceLost_32 (by decide) ?_
        refine z_istore_n (L' := [(2, _), (0, _), (1, _)]) d_Tb_chanceLost_33 rfl (by decide) rfl ?_
        have key_34 : ∀ (n : Nat) (i : Nat) (G2 : zG) (D2 : Nat → UInt64), nk - i < n → (i ≤ nk) → (zT d A D2 V nk ns G2) → (tFr A nk ns G G2) → (∀ j, j < 9 → zmg (D2 j) (1024 + 35 * i)) → (∀ j, j < 9 → D2 j = zlsF (zcur (V (400 + si)) (V (200 + si) 3)) (fun k => V (100 + k) 3) i j) → Z g0 d y_Tb_chanceLost c_Tb_chanceLost 5 ((Option.some Jvm.ClassFile.FieldType.double)) [] p l e (zR 11 0 0) s m args below meth c (vx_MQ below (zQc g0 d (zTu d A nk ns V G (fun r => r = some (.double (zls (zlsF (zcur (V (400 + si)) (V (200 + si) 3)) (fun k => V (100 + k) 3) nk) (V (200 + si) 0).toNatClampNeg)) ∧ zmg (zls (zlsF (zcur (V (400 + si)) (V (200 + si) 3)) (fun k => V (100 + k) 3) nk) (V (200 + si) 0).toNatClampNeg) 1400))) (zXc g0 d (zNo)) args s 0 0 (zA g0)) 0 0 (G2) [(2, .int (nI i)), (0, .ref (A 0)), (1, .ref (A (200 + si)))] [] 34 := by
          intro n
          induction n with
          | zero => intro i G2 D2 h0; exact absurd h0 (Nat.not_lt_zero _)
          | succ n ih_34 =>
            intro i G2 D2 hm_34 hi hT2 hF2 hm2 hx2
            refine z_iload_n 0 d_Tb_chanceLost_34 rfl rfl ?_
            refine z_aload_n 1 d_Tb_chanceLost_35 rfl rfl ?_
            refine z_get zc_Tb 0 (by decide) qF_Tb_10 hT2.tb rfl d_Tb_chanceLost_36 ?_
            refine z_callV0 (m_AL_size hs0 hst hT2.kl) ym_AL_size qM_Tb_68 qI_AL_size qV_AL_AL_size zc_AL hT2.kl d_Tb_chanceLost_39 rfl (Nat.le_of_ble_eq_true rfl) ⟨Nat.zero_le _, Nat.zero_le _⟩ ⟨Nat.le_of_ble_eq_true rfl, Nat.le_of_ble_eq_true rfl⟩ ?_
            refine z_icmp_ge 77 d_Tb_chanceLost_42 (by decide) (fun c_42 => ?_) (fun c_42 => ?_)
            · skip
              obtain rfl : nk = i := by
                have := (nI_leI (a := nk) (b := i) (by omega) (by omega)).mp c_42
                omega
              have hm5 : ∀ j, j < 9 → zmg (zlsF (zcur (V (400 + si)) (V (200 + si) 3)) (fun k => V (100 + k) 3) nk j) 1304 := fun j hj => by rw [← hx2 j hj]; exact (hm2 j hj).mono (by omega)
              refine z_dconst0 d_Tb_chanceLost_77 ?_
              refine z_dstore_n (L' := [(2, _), (0, _), (1, _)]) d_Tb_chanceLost_78 rfl (by decide) rfl ?_
              refine z_iconst (v := (nI 0)) d_Tb_chanceLost_79 (by decide) ?_
              refine z_istore (L' := [(4, _), (2, _), (0, _), (1, _)]) d_Tb_chanceLost_80 (by decide) rfl ?_
              have key_82 : ∀ (n : Nat) (i : Nat), t - i < n → (i ≤ t) → (zmg (zls (zlsF (zcur (V (400 + si)) (V (200 + si) 3)) (fun k => V (100 + k) 3) nk) i) (1304 + 2 * i)) → Z g0 d y_Tb_chanceLost c_Tb_chanceLost 5 ((Option.some Jvm.ClassFile.FieldType.double)) [] p l e (zR 11 0 0) s m args below meth c (vx_MQ below (zQc g0 d (zTu d A nk ns V G (fun r => r = some (.double (zls (zlsF (zcur (V (400 + si)) (V (200 + si) 3)) (fun k => V (100 + k) 3) nk) (V (200 + si) 0).toNatClampNeg)) ∧ zmg (zls (zlsF (zcur (V (400 + si)) (V (200 + si) 3)) (fun k => V (100 + k) 3) nk) (V (200 + si) 0).toNatClampNeg) 1400))) (zXc g0 d (zNo)) args s 0 0 (zA g0)) 0 0 (G2) [(4, .int (nI i)), (2, .double (zls (zlsF (zcur (V (400 + si)) (V (200 + si) 3)) (fun k => V (100 + k) 3) nk) i)), (0, .ref (A 0)), (1, .ref (A (200 + si)))] [] 82 := by
                intro n
                induction n with
                | zero => intro i h0; exact absurd h0 (Nat.not_lt_zero _)
                | succ n ih_82 =>
                  intro i hm_82 hi hv
                  refine z_iload 0 d_Tb_chanceLost_82 rfl ?_
                  refine z_aload_n 3 d_Tb_chanceLost_84 rfl rfl ?_
                  refine z_get zc_Se 0 (by decide) qF_Tb_147 (hT2.se hsi).1 rfl d_Tb_chanceLost_85 ?_
                  refine z_topv ht ?_
                  refine z_icmp_ge 117 d_Tb_chanceLost_88 (by decide) (fun c_88 => ?_) (fun c_88 => ?_)
                  · skip
                    obtain rfl : t = i := by
                      have := (nI_leI (a := t) (b := i) (by omega) (by omega)).mp c_88
                      omega
                    refine z_dload_n 1 d_Tb_chanceLost_117 rfl rfl ?_
                    exact z_dret rfl (⟨by rw [ht, nI_clamp (by omega)]; exact ⟨rfl, hv.mono (by omega)⟩, D2, V, hT2, zKo.rf, hF2⟩) (by first | decide | omega) (by first | decide | omega) d_Tb_chanceLost_118
                  · skip
                    have hi6 : i < t := Nat.lt_of_not_le fun q => c_88 (nI_le q (by omega))
                    refine z_iload 0 d_Tb_chanceLost_91 rfl ?_
                    refine z_aload_n 2 d_Tb_chanceLost_93 rfl rfl ?_
                    refine z_get zc_Tb 5 (by decide) qF_Tb_40 hT2.tb rfl d_Tb_chanceLost_94 ?_
                    refine z_alenD hT2.ch d_Tb_chanceLost_97 ?_
                    refine z_icmp_ge 117 d_Tb_chanceLost_98 (by decide) (fun c_98 => absurd ((nI_leI (a := 9) (b := i) (by decide) (by omega)).mp c_98) (by omega)) (fun c_98 => ?_)
                    refine z_dload_n 1 d_Tb_chanceLost_101 rfl rfl ?_
                    refine z_aload_n 2 d_Tb_chanceLost_102 rfl rfl ?_
                    refine z_get zc_Tb 5 (by decide) qF_Tb_40 hT2.tb rfl d_Tb_chanceLost_103 ?_
                    refine z_iload 0 d_Tb_chanceLost_106 rfl ?_
                    refine z_daldN hT2.ch ((show i < 9 by omega)) (by decide) d_Tb_chanceLost_108 ?_
                    rw [hx2 i (by omega)]
                    refine z_dadd d_Tb_chanceLost_109 ((zmg_a hv ((hm5 i (by omega)).mono (by omega)) (by omega)).nn (by omega)) ?_
                    refine z_dstore_n (L' := [(2, _), (4, _), (0, _), (1, _)]) d_Tb_chanceLost_110 rfl (by decide) rfl ?_
                    refine z_iinc (v := nI (i + 1)) (L' := [(4, _), (2, _), (0, _), (1, _)]) 1 d_Tb_chanceLost_111 rfl (nI_1 i) (by decide) rfl ?_
                    refine z_goto 82 d_Tb_chanceLost_114 (by decide) ?_
                    exact ih_82 (i + 1) (by omega) (by omega) ((zmg_a hv ((hm5 i (by omega)).mono (by omega)) (by omega)).mono (by omega))
              exact key_82 (t + 1) 0 (by omega) (by omega) (zmg_0.mono (by omega))
            · skip
              have hi6 : i < nk := Nat.lt_of_not_le fun q => c_42 (nI_le q (by omega))
              refine z_aload_n 2 d_Tb_chanceLost_45 rfl rfl ?_
              refine z_iload_n 0 d_Tb_chanceLost_46 rfl rfl ?_
              refine z_callV0 (m_Se_isCurrent hs0 hst (hT2.se hsi) (show i < 8 by omega)) ym_Se_isCurrent qM_Tb_179 qI_Se_isCurrent qV_Se_Se_isCurrent zc_Se (hT2.se hsi).1 d_Tb_chanceLost_47 rfl (Nat.le_of_ble_eq_true rfl) ⟨Nat.zero_le _, Nat.zero_le _⟩ ⟨Nat.le_of_ble_eq_true rfl, Nat.le_of_ble_eq_true rfl⟩ ?_
              refine z_if_eq 71 d_Tb_chanceLost_50 (by decide) (fun c_50 => ?_) (fun c_50 => ?_)
              · skip
                have hcn : (zcur (V (400 + si)) (V (200 + si) 3)) i = false := (zb_0 _).mp c_50
                refine z_iinc (v := nI (i + 1)) (L' := [(2, _), (0, _), (1, _)]) 0 d_Tb_chanceLost_71 rfl (nI_1 i) (by decide) rfl ?_
                refine z_goto 34 d_Tb_chanceLost_74 (by decide) ?_
                first
                  | exact ih_34 (i + 1) _ _ (by omega) (by omega) hT3 (hF2.tr hF3) (fun j hj => (hm3 j hj).mono (by omega)) (fun j hj => (hx3 j hj).trans ((zrk_congr hx2 j hj).trans (congrFun (zlsF_t (r := (fun k => V (100 + k) 3)) hcu).symm j)))
                  | exact ih_34 (i + 1) _ _ (by omega) (by omega) hT2 hF2 (fun j hj => (hm2 j hj).mono (by omega)) (fun j hj => (hx2 j hj).trans (congrFun (zlsF_f (r := (fun k => V (100 + k) 3)) hcn).symm j))
              · skip
                have hcu : (zcur (V (400 + si)) (V (200 + si) 3)) i = true := (zb_n0 _).mp c_50
                refine z_aload_n 1 d_Tb_chanceLost_53 rfl rfl ?_
                refine z_aload_n 1 d_Tb_chanceLost_54 rfl rfl ?_
                refine z_get zc_Tb 0 (by decide) qF_Tb_10 hT2.tb rfl d_Tb_chanceLost_55 ?_
                refine z_iload_n 0 d_Tb_chanceLost_58 rfl rfl ?_
                refine z_callV0 (m_AL_get hs0 hst (hT2.kA hi6) hi6 (if_pos hi6)) ym_AL_get qM_Tb_166 qI_AL_get qV_AL_AL_get zc_AL (hT2.kA hi6).1 d_Tb_chanceLost_59 rfl (Nat.le_of_ble_eq_true rfl) ⟨Nat.zero_le _, Nat.zero_le _⟩ ⟨Nat.le_of_ble_eq_true rfl, Nat.le_of_ble_eq_true rfl⟩ ?_
                refine z_castS zc_Ke qK_Tb_77 (hT2.ke hi6) d_Tb_chanceLost_62 ?_
                refine z_get zc_Ke 3 (by decide) qF_Tb_375 (hT2.ke hi6) rfl d_Tb_chanceLost_65 ?_
                refine z_callVp0 ((m_Tb_riskOneE hs0 hst hT2 (V (100 + i) 3) (K := 1024 + 35 * i) (by omega) (by omega) hm2)) ym_Tb_riskOne qM_Tb_378 qI_Tb_riskOne qV_Tb_Tb_riskOne zc_Tb hT2.tb d_Tb_chanceLost_68 rfl (Nat.le_of_ble_eq_true rfl) ⟨Nat.zero_le _, Nat.zero_le _⟩ ⟨Nat.le_of_ble_eq_true rfl, Nat.le_of_ble_eq_true rfl⟩ (fun r_68 G_68 hp_68 => ?_)
                obtain ⟨rfl, D3, hT3, hm3, hx3, hF3⟩ := hp_68
                refine z_iinc (v := nI (i + 1)) (L' := [(2, _), (0, _), (1, _)]) 0 d_Tb_chanceLost_71 rfl (nI_1 i) (by decide) rfl ?_
                refine z_goto 34 d_Tb_chanceLost_74 (by decide) ?_
                first
                  | exact ih_34 (i + 1) _ _ (by omega) (by omega) hT3 (hF2.tr hF3) (fun j hj => (hm3 j hj).mono (by omega)) (fun j hj => (hx3 j hj).trans ((zrk_congr hx2 j hj).trans (congrFun (zlsF_t (r := (fun k => V (100 + k) 3)) hcu).symm j)))
                  | exact ih_34 (i + 1) _ _ (by omega) (by omega) hT2 hF2 (fun j hj => (hm2 j hj).mono (by omega)) (fun j hj => (hx2 j hj).trans (congrFun (zlsF_f (r := (fun k => V (100 + k) 3)) hcn).symm j))
        exact key_34 (nk + 1) 0 _ _ (by omega) (by omega) hT2 hF2 (fun j hj => (hm2 j hj).mono (by omega)) (fun j hj => hx2 j hj)
      · skip
        have hi6 : i < 9 := Nat.lt_of_not_le fun q => c_8 (nI_le (a := 9) (b := i) q (by omega))
        refine z_aload_n 1 d_Tb_chanceLost_11 rfl rfl ?_
        refine z_get zc_Tb 5 (by decide) qF_Tb_40 hT2.tb rfl d_Tb_chanceLost_12 ?_
        refine z_iload_n 0 d_Tb_chanceLost_15 rfl rfl ?_
        refine z_iload_n 0 d_Tb_chanceLost_16 rfl rfl ?_
        refine z_if_ne 24 d_Tb_chanceLost_17 (by decide) (fun c_17 => ?_) (fun c_17 => ?_)
        · skip
          have hz17 : zlo0 i = 0 := zlo0_n (fun q => c_17 (by rw [q]; exact nI_0))
          refine z_dconst0 d_Tb_chanceLost_24 ?_
          refine z_dastN hT2.ch (hi6) (by decide) d_Tb_chanceLost_25 ?_
          refine z_iinc (v := nI (i + 1)) (L' := [(2, _), (0, _), (1, _)]) 0 d_Tb_chanceLost_26 rfl (nI_1 i) (by decide) rfl ?_
          refine z_goto 2 d_Tb_chanceLost_29 (by decide) ?_
          refine ih_2 (i + 1) _ _ (by omega) (by omega) (hT2.putD _) (hF2.tr (zT.frput (tl_s 15) rfl)) (fun j hj => ?_) (fun j hj => ?_)
          · by_cases ej : j = i
            · subst ej; rw [vu_s]; first | exact zmg_1 | exact zmg_0
            · rw [vu_n ej]; exact hm2 j (by omega)
          · by_cases ej : j = i
            · subst ej; rw [vu_s]; exact hz17.symm
            · rw [vu_n ej]; exact hx2 j (by omega)
        · skip
          have hz17 : zlo0 i = 4607182418800017408 := by rw [(nI_z (by omega)).mp c_17]; rfl
          refine z_dconst1 d_Tb_chanceLost_20 ?_
          refine z_goto 25 d_Tb_chanceLost_21 (by decide) ?_
          refine z_dastN hT2.ch (hi6) (by decide) d_Tb_chanceLost_25 ?_
          refine z_iinc (v := nI (i + 1)) (L' := [(2, _), (0, _), (1, _)]) 0 d_Tb_chanceLost_26 rfl (nI_1 i) (by decide) rfl ?_
          refine z_goto 2 d_Tb_chanceLost_29 (by decide) ?_
          refine ih_2 (i + 1) _ _ (by omega) (by omega) (hT2.putD _) (hF2.tr (zT.frput (tl_s 15) rfl)) (fun j hj => ?_) (fun j hj => ?_)
          · by_cases ej : j = i
            · subst ej; rw [vu_s]; first | exact zmg_1 | exact zmg_0
            · rw [vu_n ej]; exact hm2 j (by omega)
          · by_cases ej : j = i
            · subst ej; rw [vu_s]; exact hz17.symm
            · rw [vu_n ej]; exact hx2 j (by omega)
  exact key_2 10 0 _ _ (by omega) (by omega) hT zFr.rf (fun j hj => absurd hj (Nat.not_lt_zero _)) (fun j hj => absurd hj (Nat.not_lt_zero _))
set_option maxHeartbeats 4000000 in
set_option maxRecDepth 100000 in
theorem m_Tb_lostE {g0 : State} {d : zD} {l : Launch} {a0 : Array Value} (hs0 : zS0 d a0 g0) (hst : l.stackTraces = false) {G : zG} {A : Nat → Nat} {D : Nat → UInt64} {V : Nat → Nat → Int32} {nk ns : Nat} (hT : zT d A D V nk ns G) (x : Int32) : zMet g0 d l y_Tb_lost c_Tb_lost 2 ((Option.some Jvm.ClassFile.FieldType.double)) 12 1 6 [.ref (A 0), .int x] (G) (zTu d A nk ns V G (fun r => ∃ u, r = some (.double u) ∧ tLo V nk ns x u)) (zXo d A nk ns V G (fun E => zoo ns x ∧ E = "java/lang/IndexOutOfBoundsException")) := by
  have hG_Tb := hT.tb
  have hnk : nk ≤ 8 := hT.2.1
  have hns : ns ≤ 6 := hT.2.2.1
  refine z_entry hs0 hst (by decide) (Nat.le_of_ble_eq_true rfl) (fun p e s m args below meth c => ?_)
  refine z_aload_n 0 d_Tb_lost_0 rfl rfl ?_
  refine z_aload_n 0 d_Tb_lost_1 rfl rfl ?_
  refine z_iload_n 1 d_Tb_lost_2 rfl rfl ?_
  refine z_callV (m_Tb_secretAt hs0 hst hT x) ym_Tb_secretAt qM_Tb_140 qI_Tb_secretAt qV_Tb_Tb_secretAt zc_Tb hG_Tb d_Tb_lost_3 rfl (Nat.le_of_ble_eq_true rfl) ⟨by decide, by decide⟩ ⟨Nat.le_of_ble_eq_true rfl, Nat.le_of_ble_eq_true rfl⟩ ?_ ?_
  · exact fun E G9 hx => by
      obtain ⟨hx1, rfl, hx3⟩ := hx
      obtain rfl : G = G9 := hx3.symm
      exact z_out ⟨⟨hx1, rfl⟩, D, V, hT, zKo.rf, zFr.rf⟩ (by decide) (by decide)
  intro r_3 G_3 hp_3
  obtain ⟨si, hsi, rfl, rfl, hg_3⟩ := hp_3
  obtain rfl : G = G_3 := hg_3.symm
  refine z_callVp0 ((m_Tb_chanceLostE hs0 hst hT hsi)) ym_Tb_chanceLost qM_Tb_294 qI_Tb_chanceLost qV_Tb_Tb_chanceLost zc_Tb hG_Tb d_Tb_lost_6 rfl (Nat.le_of_ble_eq_true rfl) ⟨by decide, by decide⟩ ⟨Nat.le_of_ble_eq_true rfl, Nat.le_of_ble_eq_true rfl⟩ (fun r_6 G_6 hp_6 => ?_)
  obtain ⟨⟨hr_6, hu9⟩, D3, V3, hT3, hK3, hF3⟩ := hp_6
  obtain rfl : r_6 = _ := hr_6
  exact z_dret rfl (⟨⟨_, rfl, hu9, si, hsi, rfl, rfl⟩, D3, V3, hT3, hK3, hF3⟩) (by first | decide | omega) (by first | decide | omega) d_Tb_lost_9

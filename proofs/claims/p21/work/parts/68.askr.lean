
def mLo (V : Nat → Nat → Int32) (nk si : Nat) : UInt64 := zls (zlsF (zgd (V (300 + si)) (V (400 + si)) (V (200 + si) 3)) (fun k => V (100 + k) 2) nk) (V (200 + si) 0).toNatClampNeg
theorem nI_npos {k : Nat} (h : 1 ≤ k) (hk : k < 2 ^ 20) : ¬ nI k ≤ 0 := fun q => by
  have := (nI_leI (a := k) (b := 0) (by omega) (by decide)).mp (by rw [nI_0]; exact q)
  omega
/-- .. of a double -/
def mAqd (d : zD) (B : Nat → Nat) (nk ns ne ec : Nat) (V : Nat → Nat → Int32) (G : zG) (T : Int32 → UInt64 → (Nat → Nat → Int32) → Prop) : Option Value → zG → Prop := fun r G1 => ∃ (v : UInt64) (W' : Nat → Nat → Int32), r = some (.double v) ∧ T (W' 0 0) v W' ∧ zM d B W' nk ns ne ec G1 ∧ zKn V W' ∧ mFr B nk ns ne G G1
def rLo (nk ns : Nat) (x t : Int32) (u : UInt64) (W : Nat → Nat → Int32) : Prop := (zin x 0 (nI ns - 1) = false ∧ t = 1) ∨ (∃ si, si < ns ∧ x = nI si ∧ t = 0 ∧ u = mLo W nk si)

set_option maxHeartbeats 4000000 in
set_option maxRecDepth 100000 in
theorem m_Mo_lostNowE {g0 : State} {d : zD} {l : Launch} {a0 : Array Value} (hs0 : zS0 d a0 g0) (hst : l.stackTraces = false) {G : zG} {B : Nat → Nat} {V : Nat → Nat → Int32} {nk ns ne ec : Nat} (hM : zM d B V nk ns ne ec G) {si : Nat} (hsi : si < ns) : zMet g0 d l y_Mo_lostNow c_Mo_lostNow 7 ((Option.some Jvm.ClassFile.FieldType.double)) 11 1 9 [.ref (B 0), .int (nI si)] (G) (fun r G1 => (r = some (.double (zls (zlsF (zgd (V (300 + si)) (V (400 + si)) (V (200 + si) 3)) (fun k => V (100 + k) 2) nk) (V (200 + si) 0).toNatClampNeg)) ∧ zmg (zls (zlsF (zgd (V (300 + si)) (V (400 + si)) (V (200 + si) 3)) (fun k => V (100 + k) 2) nk) (V (200 + si) 0).toNatClampNeg) 1400) ∧ zM d B V nk ns ne ec G1 ∧ mFr B nk ns ne G G1) (zNo) := by
  have hnk : nk ≤ 8 := hM.2.1
  have hns : ns ≤ 6 := hM.2.2.1
  have hne : ne ≤ 64 := hM.2.2.2.1
  have hp2 : 2 ^ nk ≤ 256 := Nat.pow_le_pow_right (n := 2) (by decide) hnk
  obtain ⟨t, ht1, ht4, ht⟩ := hM.tn hsi
  refine z_entry hs0 hst (by decide) (Nat.le_of_ble_eq_true rfl) (fun p e s m args below meth c => ?_)
  refine z_aload_n 0 d_Mo_lostNow_0 rfl rfl ?_
  refine z_get zc_Mo 7 (by decide) qF_Mo_20 hM.mo rfl d_Mo_lostNow_1 ?_
  refine z_iload_n 1 d_Mo_lostNow_4 rfl rfl ?_
  refine z_callF0 (m_AL_get hs0 hst (hM.sA hsi) hsi (if_pos hsi)) ym_AL_get zF_AL_get qM_Mo_51 zc_AL (hM.sA hsi).1 d_Mo_lostNow_5 rfl (Nat.le_of_ble_eq_true rfl) ⟨by decide, by decide⟩ ⟨Nat.le_of_ble_eq_true rfl, Nat.le_of_ble_eq_true rfl⟩ ?_
  refine z_castS zc_MS qK_Mo_47 (hM.se hsi).1 d_Mo_lostNow_10 ?_
  refine z_astore_n (L' := [(2, _), (0, _), (1, _)]) d_Mo_lostNow_13 rfl (by decide) rfl ?_
  refine z_bipush (v := 9) d_Mo_lostNow_14 (by decide) ?_
  refine z_newaD 9 qA_double (by decide) rfl (by decide) ⟨by decide, by decide⟩ d_Mo_lostNow_16 (fun a ha hab => ?_)
  have hMo : ∀ w, zM d B V nk ns ne ec (zu G a w) := fun w => hM.out (hM.nn_ ha)
  refine z_astore_n (L' := [(3, _), (2, _), (0, _), (1, _)]) d_Mo_lostNow_18 rfl (by decide) rfl ?_
  refine z_aload_n 0 d_Mo_lostNow_19 rfl rfl ?_
  refine z_iconst (v := (nI 0)) d_Mo_lostNow_20 (by decide) ?_
  refine z_dconst1 d_Mo_lostNow_21 ?_
  refine z_dastN zu_s (show 0 < 9 by decide) (by decide) d_Mo_lostNow_22 ?_
  refine z_one ?_
  refine z_iconst (v := (nI 0)) d_Mo_lostNow_23 (by decide) ?_
  refine z_istore (L' := [(4, _), (3, _), (2, _), (0, _), (1, _)]) d_Mo_lostNow_24 (by decide) rfl ?_
  have key_26 : ∀ (n : Nat) (i : Nat) (D2 : Nat → UInt64), nk - i < n → (i ≤ nk) → (∀ j, j < 9 → zmg (D2 j) (1024 + 35 * i)) → (∀ j, j < 9 → D2 j = zlsF (zgd (V (300 + si)) (V (400 + si)) (V (200 + si) 3)) (fun k => V (100 + k) 2) i j) → Z g0 d y_Mo_lostNow c_Mo_lostNow 7 ((Option.some Jvm.ClassFile.FieldType.double)) [] p l e (zR 11 1 9) s m args below meth c (vx_MQ below (zQc g0 d (fun r G1 => (r = some (.double (zls (zlsF (zgd (V (300 + si)) (V (400 + si)) (V (200 + si) 3)) (fun k => V (100 + k) 2) nk) (V (200 + si) 0).toNatClampNeg)) ∧ zmg (zls (zlsF (zgd (V (300 + si)) (V (400 + si)) (V (200 + si) 3)) (fun k => V (100 + k) 2) nk) (V (200 + si) 0).toNatClampNeg) 1400) ∧ zM d B V nk ns ne ec G1 ∧ mFr B nk ns ne G G1)) (zXc g0 d (zNo)) args s 1 9 (zA g0)) 1 9 (zu G a (zDb d 9 D2)) [(4, .int (nI i)), (3, .ref a), (2, .ref (B (200 + si))), (0, .ref (B 0)), (1, .int (nI si))] [] 26 := by
    intro n
    induction n with
    | zero => intro i D2 h0; exact absurd h0 (Nat.not_lt_zero _)
    | succ n ih_26 =>
      intro i D2 hm_26 hi hm2 hx2
      refine z_iload 0 d_Mo_lostNow_26 rfl ?_
      refine z_aload_n 3 d_Mo_lostNow_28 rfl rfl ?_
      refine z_get zc_Mo 6 (by decide) qF_Mo_16 (hMo _).mo rfl d_Mo_lostNow_29 ?_
      refine z_callF0 (m_AL_size hs0 hst (hMo _).kl) ym_AL_size zF_AL_size qM_Mo_94 zc_AL (hMo _).kl d_Mo_lostNow_32 rfl (Nat.le_of_ble_eq_true rfl) ⟨by decide, by decide⟩ ⟨Nat.le_of_ble_eq_true rfl, Nat.le_of_ble_eq_true rfl⟩ ?_
      refine z_icmp_ge 140 d_Mo_lostNow_37 (by decide) (fun c_37 => ?_) (fun c_37 => ?_)
      · skip
        obtain rfl : nk = i := by
          have := (nI_leI (a := nk) (b := i) (by omega) (by omega)).mp c_37
          omega
        have hm6 : ∀ j, j < 9 → zmg (zlsF (zgd (V (300 + si)) (V (400 + si)) (V (200 + si) 3)) (fun k => V (100 + k) 2) nk j) 1304 := fun j hj => by rw [← hx2 j hj]; exact (hm2 j hj).mono (by omega)
        refine z_dconst0 d_Mo_lostNow_140 ?_
        refine z_dstore (L' := [(4, _), (3, _), (2, _), (0, _), (1, _)]) d_Mo_lostNow_141 (by decide) rfl ?_
        refine z_iconst (v := (nI 0)) d_Mo_lostNow_143 (by decide) ?_
        refine z_istore (L' := [(6, _), (4, _), (3, _), (2, _), (0, _), (1, _)]) d_Mo_lostNow_144 (by decide) rfl ?_
        have key_146 : ∀ (n : Nat) (i : Nat), t - i < n → (i ≤ t) → (zmg (zls (zlsF (zgd (V (300 + si)) (V (400 + si)) (V (200 + si) 3)) (fun k => V (100 + k) 2) nk) i) (1304 + 2 * i)) → Z g0 d y_Mo_lostNow c_Mo_lostNow 7 ((Option.some Jvm.ClassFile.FieldType.double)) [] p l e (zR 11 1 9) s m args below meth c (vx_MQ below (zQc g0 d (fun r G1 => (r = some (.double (zls (zlsF (zgd (V (300 + si)) (V (400 + si)) (V (200 + si) 3)) (fun k => V (100 + k) 2) nk) (V (200 + si) 0).toNatClampNeg)) ∧ zmg (zls (zlsF (zgd (V (300 + si)) (V (400 + si)) (V (200 + si) 3)) (fun k => V (100 + k) 2) nk) (V (200 + si) 0).toNatClampNeg) 1400) ∧ zM d B V nk ns ne ec G1 ∧ mFr B nk ns ne G G1)) (zXc g0 d (zNo)) args s 1 9 (zA g0)) 1 9 (zu G a (zDb d 9 D2)) [(6, .int (nI i)), (4, .double (zls (zlsF (zgd (V (300 + si)) (V (400 + si)) (V (200 + si) 3)) (fun k => V (100 + k) 2) nk) i)), (3, .ref a), (2, .ref (B (200 + si))), (0, .ref (B 0)), (1, .int (nI si))] [] 146 := by
          intro n
          induction n with
          | zero => intro i h0; exact absurd h0 (Nat.not_lt_zero _)
          | succ n ih_146 =>
            intro i hm_146 hi hv
            refine z_iload 0 d_Mo_lostNow_146 rfl ?_
            refine z_aload_n 3 d_Mo_lostNow_148 rfl rfl ?_
            refine z_get zc_MS 0 (by decide) qF_Mo_69 ((hMo _).se hsi).1 rfl d_Mo_lostNow_149 ?_
            refine z_topv ht ?_
            refine z_icmp_ge 170 d_Mo_lostNow_152 (by decide) (fun c_152 => ?_) (fun c_152 => ?_)
            · skip
              obtain rfl : t = i := by
                have := (nI_leI (a := t) (b := i) (by omega) (by omega)).mp c_152
                omega
              refine z_dload 1 d_Mo_lostNow_170 rfl ?_
              exact z_dret rfl (⟨by rw [ht, nI_clamp (by omega)]; exact ⟨rfl, hv.mono (by omega)⟩, hMo _, zFr.new ha⟩) (by first | decide | omega) (by first | decide | omega) d_Mo_lostNow_172
            · skip
              have hi6 : i < t := Nat.lt_of_not_le fun q => c_152 (nI_le q (by omega))
              refine z_dload 1 d_Mo_lostNow_155 rfl ?_
              refine z_aload_n 2 d_Mo_lostNow_157 rfl rfl ?_
              refine z_iload 0 d_Mo_lostNow_158 rfl ?_
              refine z_daldN zu_s (show i < 9 by omega) (by decide) d_Mo_lostNow_160 ?_
              rw [hx2 i (by omega)]
              refine z_dadd d_Mo_lostNow_161 ((zmg_a hv ((hm6 i (by omega)).mono (by omega)) (by omega)).nn (by omega)) ?_
              refine z_dstore (L' := [(4, _), (6, _), (3, _), (2, _), (0, _), (1, _)]) d_Mo_lostNow_162 (by decide) rfl ?_
              refine z_iinc (v := nI (i + 1)) (L' := [(6, _), (4, _), (3, _), (2, _), (0, _), (1, _)]) 1 d_Mo_lostNow_164 rfl (nI_1 i) (by decide) rfl ?_
              refine z_goto 146 d_Mo_lostNow_167 (by decide) ?_
              exact ih_146 (i + 1) (by omega) (by omega) ((zmg_a hv ((hm6 i (by omega)).mono (by omega)) (by omega)).mono (by omega))
        exact key_146 (t + 1) 0 (by omega) (by omega) (zmg_0.mono (by omega))
      · skip
        have hi6 : i < nk := Nat.lt_of_not_le fun q => c_37 (nI_le q (by omega))
        refine z_aload_n 2 d_Mo_lostNow_40 rfl rfl ?_
        refine z_iload 0 d_Mo_lostNow_41 rfl ?_
        refine z_callV0 (m_MS_isGood hs0 hst ((hMo _).se hsi) (show i < 8 by omega)) ym_MS_isGood qM_Mo_159 qI_MS_isGood qV_MS_MS_isGood zc_MS ((hMo _).se hsi).1 d_Mo_lostNow_43 rfl (Nat.le_of_ble_eq_true rfl) ⟨by decide, by decide⟩ ⟨Nat.le_of_ble_eq_true rfl, Nat.le_of_ble_eq_true rfl⟩ ?_
        refine z_if_ne 52 d_Mo_lostNow_46 (by decide) (fun c_46 => ?_) (fun c_46 => ?_)
        · skip
          have hcu : (zgd (V (300 + si)) (V (400 + si)) (V (200 + si) 3)) i = true := (zb_n0 _).mp c_46
          refine z_aload_n 3 d_Mo_lostNow_52 rfl rfl ?_
          refine z_get zc_Mo 6 (by decide) qF_Mo_16 (hMo _).mo rfl d_Mo_lostNow_53 ?_
          refine z_iload 0 d_Mo_lostNow_56 rfl ?_
          refine z_callF0 (m_AL_get hs0 hst ((hMo _).kA hi6) hi6 (if_pos hi6)) ym_AL_get zF_AL_get qM_Mo_51 zc_AL ((hMo _).kA hi6).1 d_Mo_lostNow_58 rfl (Nat.le_of_ble_eq_true rfl) ⟨by decide, by decide⟩ ⟨Nat.le_of_ble_eq_true rfl, Nat.le_of_ble_eq_true rfl⟩ ?_
          refine z_castS zc_MK qK_Mo_57 ((hMo _).ke hi6) d_Mo_lostNow_63 ?_
          refine z_get zc_MK 2 (by decide) qF_Mo_196 ((hMo _).ke hi6) rfl d_Mo_lostNow_66 ?_
          refine z_istore (L' := [(5, _), (4, _), (3, _), (2, _), (0, _), (1, _)]) d_Mo_lostNow_69 (by decide) rfl ?_
          refine z_bipush (v := (nI 8)) d_Mo_lostNow_71 (by decide) ?_
          refine z_istore (L' := [(6, _), (5, _), (4, _), (3, _), (2, _), (0, _), (1, _)]) d_Mo_lostNow_73 (by decide) rfl ?_
          have key_75 : ∀ (n : Nat) (k : Nat) (D3 : Nat → UInt64), k < n → (k ≤ 8) → (∀ j, j < 9 → zmg (D3 j) (1024 + 35 * i + 35)) → (∀ j, j ≤ k → zmg (D3 j) (1024 + 35 * i)) → (∀ j, j < 9 → D3 j = if k < j then zrk (V (100 + i) 2) D2 j else D2 j) → Z g0 d y_Mo_lostNow c_Mo_lostNow 7 ((Option.some Jvm.ClassFile.FieldType.double)) [] p l e (zR 11 1 9) s m args below meth c (vx_MQ below (zQc g0 d (fun r G1 => (r = some (.double (zls (zlsF (zgd (V (300 + si)) (V (400 + si)) (V (200 + si) 3)) (fun k => V (100 + k) 2) nk) (V (200 + si) 0).toNatClampNeg)) ∧ zmg (zls (zlsF (zgd (V (300 + si)) (V (400 + si)) (V (200 + si) 3)) (fun k => V (100 + k) 2) nk) (V (200 + si) 0).toNatClampNeg) 1400) ∧ zM d B V nk ns ne ec G1 ∧ mFr B nk ns ne G G1)) (zXc g0 d (zNo)) args s 1 9 (zA g0)) 1 9 (zu G a (zDb d 9 D3)) [(6, .int (nI k)), (5, .int (V (100 + i) 2)), (4, .int (nI i)), (3, .ref a), (2, .ref (B (200 + si))), (0, .ref (B 0)), (1, .int (nI si))] [] 75 := by
            intro n
            induction n with
            | zero => intro k D3 h0; exact absurd h0 (Nat.not_lt_zero _)
            | succ n ih_75 =>
              intro k D3 hm_75 hk hm3 hm4 hx3
              refine z_iload 0 d_Mo_lostNow_75 rfl ?_
              refine z_if_le 120 d_Mo_lostNow_77 (by decide) (fun c_77 => ?_) (fun c_77 => ?_)
              · skip
                have m0 := zmg_m (hm4 0 (by omega)) (zmg_i (V (100 + i) 2)) (by omega) (by omega)
                have v0 := zmg_d m0 (by omega) (by omega)
                have hk0 : k = 0 := by
                  by_cases h : k = 0
                  · exact h
                  · exact absurd c_77 (nI_npos (by omega) (by omega))
                refine z_aload_n 3 d_Mo_lostNow_120 rfl rfl ?_
                refine z_iconst (v := (nI 0)) d_Mo_lostNow_121 (by decide) ?_
                refine z_aload_n 3 d_Mo_lostNow_122 rfl rfl ?_
                refine z_iconst (v := (nI 0)) d_Mo_lostNow_123 (by decide) ?_
                refine z_daldN zu_s (show 0 < 9 by decide) (by decide) d_Mo_lostNow_124 ?_
                refine z_iload 1 d_Mo_lostNow_125 rfl ?_
                refine z_i2d d_Mo_lostNow_127 ?_
                refine z_dmul d_Mo_lostNow_128 (m0.nn (by omega)) ?_
                refine z_ldc2d qXd_Mo_250 d_Mo_lostNow_129 ?_
                refine z_ddiv d_Mo_lostNow_132 (v0.nn (by omega)) ?_
                refine z_dastN zu_s (show 0 < 9 by decide) (by decide) d_Mo_lostNow_133 ?_
                refine z_one ?_
                refine z_iinc (v := nI (i + 1)) (L' := [(4, _), (6, _), (5, _), (3, _), (2, _), (0, _), (1, _)]) 2 d_Mo_lostNow_134 rfl (nI_1 i) (by decide) rfl ?_
                refine z_goto 26 d_Mo_lostNow_137 (by decide) ?_
                refine z_sub (L' := [(4, _), (3, _), (2, _), (0, _), (1, _)]) [0, 3, 4, 5, 6] rfl ?_
                first
                  | exact ih_26 (i + 1) _ (by omega) (by omega) (fun j hj => (hm2 j hj).mono (by omega)) (fun j hj => (hx2 j hj).trans (congrFun (zlsF_f (r := (fun k => V (100 + k) 2)) hcn).symm j))
                  | exact ih_26 (i + 1) _ (by omega) (by omega) (fun j hj => by
                      by_cases ej : j = 0
                      · subst ej; rw [vu_s]; exact v0.mono (by omega)
                      · rw [vu_n ej]; exact (hm3 j hj).mono (by omega)) (fun j hj => by
                      rw [zlsF_t (r := (fun k => V (100 + k) 2)) hcu, ← zrk_congr hx2 j hj]
                      by_cases ej : j = 0
                      · subst ej
                        have h1 := hx3 0 (by decide)
                        rw [if_neg (by omega)] at h1
                        rw [vu_s, h1]
                        rfl
                      · rw [vu_n ej, hx3 j hj, if_pos (by omega)])
              · skip
                have hk1 : 1 ≤ k := Nat.pos_of_ne_zero fun e => c_77 (by subst e; decide)
                have m1 := zmg_m (hm4 k (by omega)) (zmg_i (V (100 + i) 2)) (by omega) (by omega)
                have v1 := zmg_d m1 (by omega) (by omega)
                have m2 := zmg_m (hm4 (k - 1) (by omega)) (zmg_i (100 - V (100 + i) 2)) (by omega) (by omega)
                have v2 := zmg_d m2 (by omega) (by omega)
                have ms9 := zmg_a v1 v2 (by omega)
                refine z_aload_n 3 d_Mo_lostNow_80 rfl rfl ?_
                refine z_iload 0 d_Mo_lostNow_81 rfl ?_
                refine z_aload_n 3 d_Mo_lostNow_83 rfl rfl ?_
                refine z_iload 0 d_Mo_lostNow_84 rfl ?_
                refine z_daldN zu_s (show k < 9 by omega) (by decide) d_Mo_lostNow_86 ?_
                refine z_iload 1 d_Mo_lostNow_87 rfl ?_
                refine z_i2d d_Mo_lostNow_89 ?_
                refine z_dmul d_Mo_lostNow_90 (m1.nn (by omega)) ?_
                refine z_ldc2d qXd_Mo_250 d_Mo_lostNow_91 ?_
                refine z_ddiv d_Mo_lostNow_94 (v1.nn (by omega)) ?_
                refine z_aload_n 3 d_Mo_lostNow_95 rfl rfl ?_
                refine z_iload 0 d_Mo_lostNow_96 rfl ?_
                refine z_iconst (v := 1) d_Mo_lostNow_98 (by decide) ?_
                refine z_isub d_Mo_lostNow_99 ?_
                refine z_topv (nI_s1 hk1 (by omega)) ?_
                refine z_daldN zu_s (show k - 1 < 9 by omega) (by decide) d_Mo_lostNow_100 ?_
                refine z_bipush (v := 100) d_Mo_lostNow_101 (by decide) ?_
                refine z_iload 1 d_Mo_lostNow_103 rfl ?_
                refine z_isub d_Mo_lostNow_105 ?_
                refine z_i2d d_Mo_lostNow_106 ?_
                refine z_dmul d_Mo_lostNow_107 (m2.nn (by omega)) ?_
                refine z_ldc2d qXd_Mo_250 d_Mo_lostNow_108 ?_
                refine z_ddiv d_Mo_lostNow_111 (v2.nn (by omega)) ?_
                refine z_dadd d_Mo_lostNow_112 (ms9.nn (by omega)) ?_
                refine z_dastN zu_s (show k < 9 by omega) (by decide) d_Mo_lostNow_113 ?_
                refine z_one ?_
                refine z_iinc (v := nI (k - 1)) (L' := [(6, _), (5, _), (4, _), (3, _), (2, _), (0, _), (1, _)]) 0 d_Mo_lostNow_114 rfl ((z_m1 _).trans (nI_s1 hk1 (by omega))) (by decide) rfl ?_
                refine z_goto 75 d_Mo_lostNow_117 (by decide) ?_
                refine ih_75 (k - 1) _ (by omega) (by omega) (fun j hj => ?_) (fun j hj => ?_) (fun j hj => ?_)
                · by_cases ej : j = k
                  · subst ej; rw [vu_s]; exact ms9
                  · rw [vu_n ej]; exact hm3 j hj
                · rw [vu_n (by omega)]; exact hm4 j (by omega)
                · by_cases ej : j = k
                  · subst ej
                    have h1 := hx3 j hj
                    rw [if_neg (Nat.lt_irrefl j)] at h1
                    have h2 := hx3 (j - 1) (by omega)
                    rw [if_neg (by omega)] at h2
                    rw [vu_s, if_pos (by omega), zrk_p hk1, h1, h2]
                  · rw [vu_n ej, hx3 j hj]
                    by_cases c : k < j
                    · rw [if_pos c, if_pos (by omega)]
                    · rw [if_neg c, if_neg (by omega)]
          exact key_75 9 8 _ (by omega) (by omega) (fun j hj => (hm2 j hj).mono (by omega)) (fun j hj => hm2 j (by omega)) (fun j hj => by rw [if_neg (by omega)])
        · skip
          have hcn : (zgd (V (300 + si)) (V (400 + si)) (V (200 + si) 3)) i = false := (zb_0 _).mp c_46
          refine z_goto 134 d_Mo_lostNow_49 (by decide) ?_
          refine z_iinc (v := nI (i + 1)) (L' := [(4, _), (3, _), (2, _), (0, _), (1, _)]) 0 d_Mo_lostNow_134 rfl (nI_1 i) (by decide) rfl ?_
          refine z_goto 26 d_Mo_lostNow_137 (by decide) ?_
          first
            | exact ih_26 (i + 1) _ (by omega) (by omega) (fun j hj => (hm2 j hj).mono (by omega)) (fun j hj => (hx2 j hj).trans (congrFun (zlsF_f (r := (fun k => V (100 + k) 2)) hcn).symm j))
            | exact ih_26 (i + 1) _ (by omega) (by omega) (fun j hj => by
                by_cases ej : j = 0
                · subst ej; rw [vu_s]; exact v0.mono (by omega)
                · rw [vu_n ej]; exact (hm3 j hj).mono (by omega)) (fun j hj => by
                rw [zlsF_t (r := (fun k => V (100 + k) 2)) hcu, ← zrk_congr hx2 j hj]
                by_cases ej : j = 0
                · subst ej
                  have h1 := hx3 0 (by decide)
                  rw [if_neg (by omega)] at h1
                  rw [vu_s, h1]
                  rfl
                · rw [vu_n ej, hx3 j hj, if_pos (by omega)])
  exact key_26 (nk + 1) 0 _ (by omega) (by omega) (fun j hj => by
      by_cases ej : j = 0
      · subst ej; rw [vu_s]; exact zmg_1
      · rw [vu_n ej]; exact zmg_0) (fun j hj => by
      by_cases ej : j = 0
      · subst ej; rw [vu_s]; rfl
      · rw [vu_n ej]; exact (zlo0_n ej).symm)
set_option maxHeartbeats 4000000 in
set_option maxRecDepth 100000 in
theorem m_Mo_lostE {g0 : State} {d : zD} {l : Launch} {a0 : Array Value} (hs0 : zS0 d a0 g0) (hst : l.stackTraces = false) {G : zG} {B : Nat → Nat} {V : Nat → Nat → Int32} {nk ns ne ec : Nat} (hM : zM d B V nk ns ne ec G) (x : Int32) : zMet g0 d l y_Mo_lost c_Mo_lost 2 ((Option.some Jvm.ClassFile.FieldType.double)) 12 1 9 [.ref (B 0), .int x] (G) (mAqd d B nk ns ne ec V G (rLo nk ns x)) (zNo) := by
  have hnk : nk ≤ 8 := hM.2.1
  have hns : ns ≤ 6 := hM.2.2.1
  have hne : ne ≤ 64 := hM.2.2.2.1
  have hp2 : 2 ^ nk ≤ 256 := Nat.pow_le_pow_right (n := 2) (by decide) hnk
  refine z_entry hs0 hst (by decide) (Nat.le_of_ble_eq_true rfl) (fun p e s m args below meth c => ?_)
  refine z_aload_n 0 d_Mo_lost_0 rfl rfl ?_
  refine z_iconst (v := 0) d_Mo_lost_1 (by decide) ?_
  refine z_put zc_Mo 0 (by decide) qF_Mo_36 hM.mo rfl rfl rfl (Nat.le_of_ble_eq_true rfl) d_Mo_lost_2 ?_
  obtain ⟨V1, hM1, hK1, hF1, hT1⟩ := hM.putT 0
  refine z_aload_n 0 d_Mo_lost_5 rfl rfl ?_
  refine z_iload_n 1 d_Mo_lost_6 rfl rfl ?_
  refine z_callV0 (m_Mo_isSecret hs0 hst hM1 x) ym_Mo_isSecret qM_Mo_147 qI_Mo_isSecret qV_Mo_Mo_isSecret zc_Mo hM1.mo d_Mo_lost_7 rfl (Nat.le_of_ble_eq_true rfl) ⟨by decide, by decide⟩ ⟨Nat.le_of_ble_eq_true rfl, Nat.le_of_ble_eq_true rfl⟩ ?_
  refine z_if_ne 20 d_Mo_lost_10 (by decide) (fun c_10 => ?_) (fun c_10 => ?_)
  · skip
    obtain ⟨si, hsi, rfl⟩ := zin_n ((zb_n0 _).mp c_10) (by omega)
    refine z_aload_n 0 d_Mo_lost_20 rfl rfl ?_
    refine z_iload_n 1 d_Mo_lost_21 rfl rfl ?_
    refine z_callVp1 ((m_Mo_lostNowE hs0 hst hM1 hsi)) ym_Mo_lostNow qM_Mo_252 qI_Mo_lostNow qV_Mo_Mo_lostNow zc_Mo hM1.mo d_Mo_lost_22 rfl (Nat.le_of_ble_eq_true rfl) ⟨by decide, by decide⟩ ⟨Nat.le_of_ble_eq_true rfl, Nat.le_of_ble_eq_true rfl⟩ (fun r_22 G_22 hp_22 => ?_)
    obtain ⟨⟨hr_22, hu9⟩, hM2, hF2⟩ := hp_22
    obtain rfl : r_22 = _ := hr_22
    exact z_dret rfl (⟨_, V1, rfl, Or.inr ⟨si, hsi, rfl, hT1, rfl⟩, hM2, hK1, hF1.tr hF2⟩) (by first | decide | omega) (by first | decide | omega) d_Mo_lost_25
  · skip
    refine z_aload_n 0 d_Mo_lost_13 rfl rfl ?_
    refine z_iconst (v := 1) d_Mo_lost_14 (by decide) ?_
    refine z_put zc_Mo 0 (by decide) qF_Mo_36 hM1.mo rfl rfl rfl (Nat.le_of_ble_eq_true rfl) d_Mo_lost_15 ?_
    obtain ⟨V9, hM9, hK9, hF9, hT9⟩ := hM1.putT 1
    refine z_dconst0 d_Mo_lost_18 ?_
    exact z_dret rfl (⟨_, V9, rfl, Or.inl ⟨(zb_0 _).mp c_10, hT9⟩, hM9, hK1.tr hK9, hF1.tr hF9⟩) (by first | decide | omega) (by first | decide | omega) d_Mo_lost_19


theorem zmg_k {a : UInt64} (h : zmg a 1400) : zmg (FP.dmul 4661225614328463360 a) 2000 := by
  have := FP.Core.dmul_mag (a := 4661225614328463360) (Ka := 1036) (by decide) h (by decide) (by decide)
  exact Nat.lt_of_lt_of_le this (by decide)

theorem d_Tb_isSound_0 : decode c_Tb_isSound 0 = .ok (.iconst 0, 1) := by decide +kernel
theorem d_Tb_isSound_1 : decode c_Tb_isSound 1 = .ok (.istore_n 1, 1) := by decide +kernel
theorem d_Tb_isSound_2 : decode c_Tb_isSound 2 = .ok (.iload_n 1, 1) := by decide +kernel
theorem d_Tb_isSound_3 : decode c_Tb_isSound 3 = .ok (.aload_n 0, 1) := by decide +kernel
theorem d_Tb_isSound_4 : decode c_Tb_isSound 4 = .ok (.getfield 10, 3) := by decide +kernel
theorem d_Tb_isSound_7 : decode c_Tb_isSound 7 = .ok (.invokevirtual 68, 3) := by decide +kernel
theorem d_Tb_isSound_10 : decode c_Tb_isSound 10 = .ok (.if_icmp .ge 31, 3) := by decide +kernel
theorem d_Tb_isSound_13 : decode c_Tb_isSound 13 = .ok (.aload_n 0, 1) := by decide +kernel
theorem d_Tb_isSound_14 : decode c_Tb_isSound 14 = .ok (.getfield 10, 3) := by decide +kernel
theorem d_Tb_isSound_17 : decode c_Tb_isSound 17 = .ok (.iload_n 1, 1) := by decide +kernel
theorem d_Tb_isSound_18 : decode c_Tb_isSound 18 = .ok (.invokevirtual 166, 3) := by decide +kernel
theorem d_Tb_isSound_21 : decode c_Tb_isSound 21 = .ok (.checkcast 77, 3) := by decide +kernel
theorem d_Tb_isSound_24 : decode c_Tb_isSound 24 = .ok (.getfield 96, 3) := by decide +kernel
theorem d_Tb_isSound_27 : decode c_Tb_isSound 27 = .ok (.invokestatic 90, 3) := by decide +kernel
theorem d_Tb_isSound_30 : decode c_Tb_isSound 30 = .ok (.ifCond .ne 5, 3) := by decide +kernel
theorem d_Tb_isSound_33 : decode c_Tb_isSound 33 = .ok (.iconst 0, 1) := by decide +kernel
theorem d_Tb_isSound_34 : decode c_Tb_isSound 34 = .ok (.ireturn, 1) := by decide +kernel
theorem d_Tb_isSound_35 : decode c_Tb_isSound 35 = .ok (.iinc 1 1, 3) := by decide +kernel
theorem d_Tb_isSound_38 : decode c_Tb_isSound 38 = .ok (.goto (-36), 3) := by decide +kernel
theorem d_Tb_isSound_41 : decode c_Tb_isSound 41 = .ok (.iconst 0, 1) := by decide +kernel
theorem d_Tb_isSound_42 : decode c_Tb_isSound 42 = .ok (.istore_n 1, 1) := by decide +kernel
theorem d_Tb_isSound_43 : decode c_Tb_isSound 43 = .ok (.iload_n 1, 1) := by decide +kernel
theorem d_Tb_isSound_44 : decode c_Tb_isSound 44 = .ok (.aload_n 0, 1) := by decide +kernel
theorem d_Tb_isSound_45 : decode c_Tb_isSound 45 = .ok (.getfield 16, 3) := by decide +kernel
theorem d_Tb_isSound_48 : decode c_Tb_isSound 48 = .ok (.invokevirtual 68, 3) := by decide +kernel
theorem d_Tb_isSound_51 : decode c_Tb_isSound 51 = .ok (.if_icmp .ge 29, 3) := by decide +kernel
theorem d_Tb_isSound_54 : decode c_Tb_isSound 54 = .ok (.aload_n 0, 1) := by decide +kernel
theorem d_Tb_isSound_55 : decode c_Tb_isSound 55 = .ok (.aload_n 0, 1) := by decide +kernel
theorem d_Tb_isSound_56 : decode c_Tb_isSound 56 = .ok (.getfield 16, 3) := by decide +kernel
theorem d_Tb_isSound_59 : decode c_Tb_isSound 59 = .ok (.iload_n 1, 1) := by decide +kernel
theorem d_Tb_isSound_60 : decode c_Tb_isSound 60 = .ok (.invokevirtual 166, 3) := by decide +kernel
theorem d_Tb_isSound_63 : decode c_Tb_isSound 63 = .ok (.checkcast 115, 3) := by decide +kernel
theorem d_Tb_isSound_66 : decode c_Tb_isSound 66 = .ok (.invokevirtual 307, 3) := by decide +kernel
theorem d_Tb_isSound_69 : decode c_Tb_isSound 69 = .ok (.ifCond .ne 5, 3) := by decide +kernel
theorem d_Tb_isSound_72 : decode c_Tb_isSound 72 = .ok (.iconst 0, 1) := by decide +kernel
theorem d_Tb_isSound_73 : decode c_Tb_isSound 73 = .ok (.ireturn, 1) := by decide +kernel
theorem d_Tb_isSound_74 : decode c_Tb_isSound 74 = .ok (.iinc 1 1, 3) := by decide +kernel
theorem d_Tb_isSound_77 : decode c_Tb_isSound 77 = .ok (.goto (-34), 3) := by decide +kernel
theorem d_Tb_isSound_80 : decode c_Tb_isSound 80 = .ok (.aload_n 0, 1) := by decide +kernel
theorem d_Tb_isSound_81 : decode c_Tb_isSound 81 = .ok (.getfield 22, 3) := by decide +kernel
theorem d_Tb_isSound_84 : decode c_Tb_isSound 84 = .ok (.invokevirtual 311, 3) := by decide +kernel
theorem d_Tb_isSound_87 : decode c_Tb_isSound 87 = .ok (.ireturn, 1) := by decide +kernel
set_option maxHeartbeats 4000000 in
set_option maxRecDepth 100000 in
theorem m_Tb_isSound {g0 : State} {d : zD} {l : Launch} {a0 : Array Value} (hs0 : zS0 d a0 g0) (hst : l.stackTraces = false) {G : zG} {A : Nat → Nat} {D : Nat → UInt64} {V : Nat → Nat → Int32} {nk ns : Nat} (hT : zT d A D V nk ns G) : zMet g0 d l y_Tb_isSound c_Tb_isSound 2 ((Option.some Jvm.ClassFile.FieldType.boolean)) 11 0 0 [.ref (A 0)] (G) (zTu d A nk ns V G zrB) (zNo) := by
  have hG_Tb := hT.tb
  have hnk : nk ≤ 8 := hT.2.1
  have hns : ns ≤ 6 := hT.2.2.1
  refine z_entry hs0 hst (by decide) (Nat.le_of_ble_eq_true rfl) (fun p e s m args below meth c => ?_)
  refine z_iconst (v := (nI 0)) d_Tb_isSound_0 (by decide) ?_
  refine z_istore_n (L' := [(1, _), (0, _)]) d_Tb_isSound_1 rfl (by decide) rfl ?_
  have key_2 : ∀ (n : Nat) (i : Nat) , nk - i < n → (i ≤ nk) → Z g0 d y_Tb_isSound c_Tb_isSound 2 ((Option.some Jvm.ClassFile.FieldType.boolean)) [] p l e (zR 11 0 0) s m args below meth c (vx_MQ below (zQc g0 d (zTu d A nk ns V G zrB)) (zXc g0 d (zNo)) args s 0 0 (zA g0)) 0 0 (G) [(1, .int (nI i)), (0, .ref (A 0))] [] 2 := by
    intro n
    induction n with
    | zero => intro i  h0; exact absurd h0 (Nat.not_lt_zero _)
    | succ n ih_2 =>
      intro i  hm_2 hi
      refine z_iload_n 0 d_Tb_isSound_2 rfl rfl ?_
      refine z_aload_n 1 d_Tb_isSound_3 rfl rfl ?_
      refine z_get zc_Tb 0 (by decide) qF_Tb_10 (by first | exact hT2.tb | exact hT.tb) rfl d_Tb_isSound_4 ?_
      refine z_callV0 (m_AL_size hs0 hst hT.kl) ym_AL_size qM_Tb_68 qI_AL_size qV_AL_AL_size zc_AL hT.kl d_Tb_isSound_7 rfl (Nat.le_of_ble_eq_true rfl) ⟨Nat.zero_le _, Nat.zero_le _⟩ ⟨Nat.le_of_ble_eq_true rfl, Nat.le_of_ble_eq_true rfl⟩ ?_
      refine z_icmp_ge 41 d_Tb_isSound_10 (by decide) (fun c_10 => ?_) (fun c_10 => ?_)
      · skip
        refine z_iconst (v := (nI 0)) d_Tb_isSound_41 (by decide) ?_
        refine z_istore_n (L' := [(1, _), (0, _)]) d_Tb_isSound_42 rfl (by decide) rfl ?_
        have key_43 : ∀ (n : Nat) (i : Nat) (G2 : zG) (D2 : Nat → UInt64) (V2 : Nat → Nat → Int32) , ns - i < n → (i ≤ ns) → (zT d A D2 V2 nk ns G2) → (zKo V V2) → (tFr A nk ns G G2) → Z g0 d y_Tb_isSound c_Tb_isSound 2 ((Option.some Jvm.ClassFile.FieldType.boolean)) [] p l e (zR 11 0 0) s m args below meth c (vx_MQ below (zQc g0 d (zTu d A nk ns V G zrB)) (zXc g0 d (zNo)) args s 0 0 (zA g0)) 0 0 (G2) [(1, .int (nI i)), (0, .ref (A 0))] [] 43 := by
          intro n
          induction n with
          | zero => intro i G2 D2 V2  h0; exact absurd h0 (Nat.not_lt_zero _)
          | succ n ih_43 =>
            intro i G2 D2 V2  hm_43 hi hT2 hK2 hF2
            refine z_iload_n 0 d_Tb_isSound_43 rfl rfl ?_
            refine z_aload_n 1 d_Tb_isSound_44 rfl rfl ?_
            refine z_get zc_Tb 1 (by decide) qF_Tb_16 (by first | exact hT2.tb | exact hT.tb) rfl d_Tb_isSound_45 ?_
            refine z_callV0 (m_AL_size hs0 hst hT2.sl) ym_AL_size qM_Tb_68 qI_AL_size qV_AL_AL_size zc_AL hT2.sl d_Tb_isSound_48 rfl (Nat.le_of_ble_eq_true rfl) ⟨Nat.zero_le _, Nat.zero_le _⟩ ⟨Nat.le_of_ble_eq_true rfl, Nat.le_of_ble_eq_true rfl⟩ ?_
            refine z_icmp_ge 80 d_Tb_isSound_51 (by decide) (fun c_51 => ?_) (fun c_51 => ?_)
            · skip
              obtain ⟨c9, hc9, ec9, hR9⟩ := hT2.rN
              refine z_aload_n 1 d_Tb_isSound_80 rfl rfl ?_
              refine z_get zc_Tb 2 (by decide) qF_Tb_22 (by first | exact hT2.tb | exact hT.tb) rfl d_Tb_isSound_81 ?_
              refine z_callV0 (m_Re_isWhole hs0 hst hR9 hc9) ym_Re_isWhole qM_Tb_311 qI_Re_isWhole qV_Re_Re_isWhole zc_Re hT2.re d_Tb_isSound_84 rfl (Nat.le_of_ble_eq_true rfl) ⟨Nat.zero_le _, Nat.zero_le _⟩ ⟨Nat.le_of_ble_eq_true rfl, Nat.le_of_ble_eq_true rfl⟩ ?_
              exact z_zret rfl (by first | rfl | exact zb_nar _) (⟨⟨_, rfl⟩, D2, V2, hT2, hK2, hF2⟩) (by first | decide | omega) (by first | decide | omega) d_Tb_isSound_87
            · skip
              have hi6 : i < ns := Nat.lt_of_not_le fun q => c_51 (nI_le q (by omega))
              refine z_aload_n 1 d_Tb_isSound_54 rfl rfl ?_
              refine z_aload_n 1 d_Tb_isSound_55 rfl rfl ?_
              refine z_get zc_Tb 1 (by decide) qF_Tb_16 (by first | exact hT2.tb | exact hT.tb) rfl d_Tb_isSound_56 ?_
              refine z_iload_n 0 d_Tb_isSound_59 rfl rfl ?_
              refine z_callV0 (m_AL_get hs0 hst (hT2.sA hi6) hi6 (if_pos hi6)) ym_AL_get qM_Tb_166 qI_AL_get qV_AL_AL_get zc_AL (hT2.sA hi6).1 d_Tb_isSound_60 rfl (Nat.le_of_ble_eq_true rfl) ⟨Nat.zero_le _, Nat.zero_le _⟩ ⟨Nat.le_of_ble_eq_true rfl, Nat.le_of_ble_eq_true rfl⟩ ?_
              refine z_castS zc_Se qK_Tb_115 (hT2.se hi6).1 d_Tb_isSound_63 ?_
              refine z_callVp0 (m_Tb_isSecretSound hs0 hst hT2 hi6) ym_Tb_isSecretSound qM_Tb_307 qI_Tb_isSecretSound qV_Tb_Tb_isSecretSound zc_Tb hT2.tb d_Tb_isSound_66 rfl (Nat.le_of_ble_eq_true rfl) ⟨Nat.zero_le _, Nat.zero_le _⟩ ⟨Nat.le_of_ble_eq_true rfl, Nat.le_of_ble_eq_true rfl⟩ (fun r_66 G_66 hp_66 => ?_)
              obtain ⟨⟨b_66, rfl⟩, D3, V3, hT3, hK3, hF3⟩ := hp_66
              refine z_if_ne 74 d_Tb_isSound_69 (by decide) (fun c_69 => ?_) (fun c_69 => ?_)
              · skip
                refine z_iinc (v := nI (i + 1)) (L' := [(1, _), (0, _)]) 0 d_Tb_isSound_74 rfl (nI_1 i) (by decide) rfl ?_
                refine z_goto 43 d_Tb_isSound_77 (by decide) ?_
                exact ih_43 (i + 1) _ _ _ (by omega) (by omega) hT3 (hK2.tr hK3) (hF2.tr hF3)
              · skip
                refine z_iconst (v := 0) d_Tb_isSound_72 (by decide) ?_
                exact z_zret rfl (by first | rfl | exact zb_nar _) (⟨⟨false, rfl⟩, D3, V3, hT3, hK2.tr hK3, hF2.tr hF3⟩) (by first | decide | omega) (by first | decide | omega) d_Tb_isSound_73
        exact key_43 (ns + 1) 0 _ _ _ (by omega) (by omega) hT zKo.rf zFr.rf
      · skip
        have hi6 : i < nk := Nat.lt_of_not_le fun q => c_10 (nI_le q (by omega))
        refine z_aload_n 1 d_Tb_isSound_13 rfl rfl ?_
        refine z_get zc_Tb 0 (by decide) qF_Tb_10 (by first | exact hT2.tb | exact hT.tb) rfl d_Tb_isSound_14 ?_
        refine z_iload_n 0 d_Tb_isSound_17 rfl rfl ?_
        refine z_callV0 (m_AL_get hs0 hst (hT.kA hi6) hi6 (if_pos hi6)) ym_AL_get qM_Tb_166 qI_AL_get qV_AL_AL_get zc_AL (hT.kA hi6).1 d_Tb_isSound_18 rfl (Nat.le_of_ble_eq_true rfl) ⟨Nat.zero_le _, Nat.zero_le _⟩ ⟨Nat.le_of_ble_eq_true rfl, Nat.le_of_ble_eq_true rfl⟩ ?_
        refine z_castS zc_Ke qK_Tb_77 (hT.ke hi6) d_Tb_isSound_21 ?_
        refine z_get zc_Ke 4 (by decide) qF_Tb_96 (hT.ke hi6) rfl d_Tb_isSound_24 ?_
        refine z_callS0 (m_Tb_isNumber hs0 hst _) ym_Tb_isNumber qM_Tb_90 qS_Tb_isNumber d_Tb_isSound_27 rfl (Nat.le_of_ble_eq_true rfl) ⟨Nat.zero_le _, Nat.zero_le _⟩ ⟨Nat.le_of_ble_eq_true rfl, Nat.le_of_ble_eq_true rfl⟩ ?_
        refine z_if_ne 35 d_Tb_isSound_30 (by decide) (fun c_30 => ?_) (fun c_30 => ?_)
        · skip
          refine z_iinc (v := nI (i + 1)) (L' := [(1, _), (0, _)]) 0 d_Tb_isSound_35 rfl (nI_1 i) (by decide) rfl ?_
          refine z_goto 2 d_Tb_isSound_38 (by decide) ?_
          exact ih_2 (i + 1) (by omega) (by omega)
        · skip
          refine z_iconst (v := 0) d_Tb_isSound_33 (by decide) ?_
          exact z_zret rfl (by first | rfl | exact zb_nar _) (⟨⟨false, rfl⟩, D, V, hT, zKo.rf, zFr.rf⟩) (by first | decide | omega) (by first | decide | omega) d_Tb_isSound_34
  exact key_2 (nk + 1) 0 (by omega) (by omega)
theorem d_Tb_digestSecret_0 : decode c_Tb_digestSecret 0 = .ok (.lload_n 1, 1) := by decide +kernel
theorem d_Tb_digestSecret_1 : decode c_Tb_digestSecret 1 = .ok (.lstore 4, 2) := by decide +kernel
theorem d_Tb_digestSecret_3 : decode c_Tb_digestSecret 3 = .ok (.iconst 0, 1) := by decide +kernel
theorem d_Tb_digestSecret_4 : decode c_Tb_digestSecret 4 = .ok (.istore 6, 2) := by decide +kernel
theorem d_Tb_digestSecret_6 : decode c_Tb_digestSecret 6 = .ok (.iload 6, 2) := by decide +kernel
theorem d_Tb_digestSecret_8 : decode c_Tb_digestSecret 8 = .ok (.bipush 8, 2) := by decide +kernel
theorem d_Tb_digestSecret_10 : decode c_Tb_digestSecret 10 = .ok (.if_icmp .gt 26, 3) := by decide +kernel
theorem d_Tb_digestSecret_13 : decode c_Tb_digestSecret 13 = .ok (.lload 4, 2) := by decide +kernel
theorem d_Tb_digestSecret_15 : decode c_Tb_digestSecret 15 = .ok (.ldc2_w 316, 3) := by decide +kernel
theorem d_Tb_digestSecret_18 : decode c_Tb_digestSecret 18 = .ok (.lmul, 1) := by decide +kernel
theorem d_Tb_digestSecret_19 : decode c_Tb_digestSecret 19 = .ok (.aload_n 0, 1) := by decide +kernel
theorem d_Tb_digestSecret_20 : decode c_Tb_digestSecret 20 = .ok (.aload_n 3, 1) := by decide +kernel
theorem d_Tb_digestSecret_21 : decode c_Tb_digestSecret 21 = .ok (.iload 6, 2) := by decide +kernel
theorem d_Tb_digestSecret_23 : decode c_Tb_digestSecret 23 = .ok (.invokevirtual 238, 3) := by decide +kernel
theorem d_Tb_digestSecret_26 : decode c_Tb_digestSecret 26 = .ok (.i2l, 1) := by decide +kernel
theorem d_Tb_digestSecret_27 : decode c_Tb_digestSecret 27 = .ok (.ladd, 1) := by decide +kernel
theorem d_Tb_digestSecret_28 : decode c_Tb_digestSecret 28 = .ok (.lstore 4, 2) := by decide +kernel
theorem d_Tb_digestSecret_30 : decode c_Tb_digestSecret 30 = .ok (.iinc 6 1, 3) := by decide +kernel
theorem d_Tb_digestSecret_33 : decode c_Tb_digestSecret 33 = .ok (.goto (-27), 3) := by decide +kernel
theorem d_Tb_digestSecret_36 : decode c_Tb_digestSecret 36 = .ok (.iconst 0, 1) := by decide +kernel
theorem d_Tb_digestSecret_37 : decode c_Tb_digestSecret 37 = .ok (.istore 6, 2) := by decide +kernel
theorem d_Tb_digestSecret_39 : decode c_Tb_digestSecret 39 = .ok (.iload 6, 2) := by decide +kernel
theorem d_Tb_digestSecret_41 : decode c_Tb_digestSecret 41 = .ok (.aload_n 0, 1) := by decide +kernel
theorem d_Tb_digestSecret_42 : decode c_Tb_digestSecret 42 = .ok (.getfield 10, 3) := by decide +kernel
theorem d_Tb_digestSecret_45 : decode c_Tb_digestSecret 45 = .ok (.invokevirtual 68, 3) := by decide +kernel
theorem d_Tb_digestSecret_48 : decode c_Tb_digestSecret 48 = .ok (.if_icmp .ge 53, 3) := by decide +kernel
theorem d_Tb_digestSecret_51 : decode c_Tb_digestSecret 51 = .ok (.iconst 0, 1) := by decide +kernel
theorem d_Tb_digestSecret_52 : decode c_Tb_digestSecret 52 = .ok (.istore 7, 2) := by decide +kernel
theorem d_Tb_digestSecret_54 : decode c_Tb_digestSecret 54 = .ok (.iload 7, 2) := by decide +kernel
theorem d_Tb_digestSecret_56 : decode c_Tb_digestSecret 56 = .ok (.iconst 2, 1) := by decide +kernel
theorem d_Tb_digestSecret_57 : decode c_Tb_digestSecret 57 = .ok (.if_icmp .gt 38, 3) := by decide +kernel
theorem d_Tb_digestSecret_60 : decode c_Tb_digestSecret 60 = .ok (.lload 4, 2) := by decide +kernel
theorem d_Tb_digestSecret_62 : decode c_Tb_digestSecret 62 = .ok (.ldc2_w 316, 3) := by decide +kernel
theorem d_Tb_digestSecret_65 : decode c_Tb_digestSecret 65 = .ok (.lmul, 1) := by decide +kernel
theorem d_Tb_digestSecret_66 : decode c_Tb_digestSecret 66 = .ok (.aload_n 0, 1) := by decide +kernel
theorem d_Tb_digestSecret_67 : decode c_Tb_digestSecret 67 = .ok (.aload_n 3, 1) := by decide +kernel
theorem d_Tb_digestSecret_68 : decode c_Tb_digestSecret 68 = .ok (.aload_n 0, 1) := by decide +kernel
theorem d_Tb_digestSecret_69 : decode c_Tb_digestSecret 69 = .ok (.getfield 10, 3) := by decide +kernel
theorem d_Tb_digestSecret_72 : decode c_Tb_digestSecret 72 = .ok (.iload 6, 2) := by decide +kernel
theorem d_Tb_digestSecret_74 : decode c_Tb_digestSecret 74 = .ok (.invokevirtual 166, 3) := by decide +kernel
theorem d_Tb_digestSecret_77 : decode c_Tb_digestSecret 77 = .ok (.checkcast 77, 3) := by decide +kernel
theorem d_Tb_digestSecret_80 : decode c_Tb_digestSecret 80 = .ok (.iload 7, 2) := by decide +kernel
theorem d_Tb_digestSecret_82 : decode c_Tb_digestSecret 82 = .ok (.invokevirtual 244, 3) := by decide +kernel
theorem d_Tb_digestSecret_85 : decode c_Tb_digestSecret 85 = .ok (.i2l, 1) := by decide +kernel
theorem d_Tb_digestSecret_86 : decode c_Tb_digestSecret 86 = .ok (.ladd, 1) := by decide +kernel
theorem d_Tb_digestSecret_87 : decode c_Tb_digestSecret 87 = .ok (.lstore 4, 2) := by decide +kernel
theorem d_Tb_digestSecret_89 : decode c_Tb_digestSecret 89 = .ok (.iinc 7 1, 3) := by decide +kernel
theorem d_Tb_digestSecret_92 : decode c_Tb_digestSecret 92 = .ok (.goto (-38), 3) := by decide +kernel
theorem d_Tb_digestSecret_95 : decode c_Tb_digestSecret 95 = .ok (.iinc 6 1, 3) := by decide +kernel
theorem d_Tb_digestSecret_98 : decode c_Tb_digestSecret 98 = .ok (.goto (-59), 3) := by decide +kernel
theorem d_Tb_digestSecret_101 : decode c_Tb_digestSecret 101 = .ok (.aload_n 0, 1) := by decide +kernel
theorem d_Tb_digestSecret_102 : decode c_Tb_digestSecret 102 = .ok (.aload_n 3, 1) := by decide +kernel
theorem d_Tb_digestSecret_103 : decode c_Tb_digestSecret 103 = .ok (.aload_n 0, 1) := by decide +kernel
theorem d_Tb_digestSecret_104 : decode c_Tb_digestSecret 104 = .ok (.invokevirtual 329, 3) := by decide +kernel
theorem d_Tb_digestSecret_107 : decode c_Tb_digestSecret 107 = .ok (.invokevirtual 184, 3) := by decide +kernel
theorem d_Tb_digestSecret_110 : decode c_Tb_digestSecret 110 = .ok (.aload_n 0, 1) := by decide +kernel
theorem d_Tb_digestSecret_111 : decode c_Tb_digestSecret 111 = .ok (.getfield 36, 3) := by decide +kernel
theorem d_Tb_digestSecret_114 : decode c_Tb_digestSecret 114 = .ok (.invokevirtual 188, 3) := by decide +kernel
theorem d_Tb_digestSecret_117 : decode c_Tb_digestSecret 117 = .ok (.iconst 0, 1) := by decide +kernel
theorem d_Tb_digestSecret_118 : decode c_Tb_digestSecret 118 = .ok (.istore 6, 2) := by decide +kernel
theorem d_Tb_digestSecret_120 : decode c_Tb_digestSecret 120 = .ok (.iload 6, 2) := by decide +kernel
theorem d_Tb_digestSecret_122 : decode c_Tb_digestSecret 122 = .ok (.iconst 5, 1) := by decide +kernel
theorem d_Tb_digestSecret_123 : decode c_Tb_digestSecret 123 = .ok (.if_icmp .gt 26, 3) := by decide +kernel
theorem d_Tb_digestSecret_126 : decode c_Tb_digestSecret 126 = .ok (.lload 4, 2) := by decide +kernel
theorem d_Tb_digestSecret_128 : decode c_Tb_digestSecret 128 = .ok (.ldc2_w 316, 3) := by decide +kernel
theorem d_Tb_digestSecret_131 : decode c_Tb_digestSecret 131 = .ok (.lmul, 1) := by decide +kernel
theorem d_Tb_digestSecret_132 : decode c_Tb_digestSecret 132 = .ok (.aload_n 0, 1) := by decide +kernel
theorem d_Tb_digestSecret_133 : decode c_Tb_digestSecret 133 = .ok (.aload_n 3, 1) := by decide +kernel
theorem d_Tb_digestSecret_134 : decode c_Tb_digestSecret 134 = .ok (.iload 6, 2) := by decide +kernel
theorem d_Tb_digestSecret_136 : decode c_Tb_digestSecret 136 = .ok (.invokevirtual 283, 3) := by decide +kernel
theorem d_Tb_digestSecret_139 : decode c_Tb_digestSecret 139 = .ok (.i2l, 1) := by decide +kernel
theorem d_Tb_digestSecret_140 : decode c_Tb_digestSecret 140 = .ok (.ladd, 1) := by decide +kernel
theorem d_Tb_digestSecret_141 : decode c_Tb_digestSecret 141 = .ok (.lstore 4, 2) := by decide +kernel
theorem d_Tb_digestSecret_143 : decode c_Tb_digestSecret 143 = .ok (.iinc 6 1, 3) := by decide +kernel
theorem d_Tb_digestSecret_146 : decode c_Tb_digestSecret 146 = .ok (.goto (-26), 3) := by decide +kernel
theorem d_Tb_digestSecret_149 : decode c_Tb_digestSecret 149 = .ok (.lload 4, 2) := by decide +kernel
theorem d_Tb_digestSecret_151 : decode c_Tb_digestSecret 151 = .ok (.ldc2_w 316, 3) := by decide +kernel
theorem d_Tb_digestSecret_154 : decode c_Tb_digestSecret 154 = .ok (.lmul, 1) := by decide +kernel
theorem d_Tb_digestSecret_155 : decode c_Tb_digestSecret 155 = .ok (.aload_n 0, 1) := by decide +kernel
theorem d_Tb_digestSecret_156 : decode c_Tb_digestSecret 156 = .ok (.aload_n 3, 1) := by decide +kernel
theorem d_Tb_digestSecret_157 : decode c_Tb_digestSecret 157 = .ok (.invokevirtual 298, 3) := by decide +kernel
theorem d_Tb_digestSecret_160 : decode c_Tb_digestSecret 160 = .ok (.i2l, 1) := by decide +kernel
theorem d_Tb_digestSecret_161 : decode c_Tb_digestSecret 161 = .ok (.ladd, 1) := by decide +kernel
theorem d_Tb_digestSecret_162 : decode c_Tb_digestSecret 162 = .ok (.lstore 4, 2) := by decide +kernel
theorem d_Tb_digestSecret_164 : decode c_Tb_digestSecret 164 = .ok (.lload 4, 2) := by decide +kernel
theorem d_Tb_digestSecret_166 : decode c_Tb_digestSecret 166 = .ok (.ldc2_w 316, 3) := by decide +kernel
theorem d_Tb_digestSecret_169 : decode c_Tb_digestSecret 169 = .ok (.lmul, 1) := by decide +kernel
theorem d_Tb_digestSecret_170 : decode c_Tb_digestSecret 170 = .ok (.ldc2_w 332, 3) := by decide +kernel
theorem d_Tb_digestSecret_173 : decode c_Tb_digestSecret 173 = .ok (.aload_n 0, 1) := by decide +kernel
theorem d_Tb_digestSecret_174 : decode c_Tb_digestSecret 174 = .ok (.aload_n 3, 1) := by decide +kernel
theorem d_Tb_digestSecret_175 : decode c_Tb_digestSecret 175 = .ok (.invokevirtual 294, 3) := by decide +kernel
theorem d_Tb_digestSecret_178 : decode c_Tb_digestSecret 178 = .ok (.dmul, 1) := by decide +kernel
theorem d_Tb_digestSecret_179 : decode c_Tb_digestSecret 179 = .ok (.d2l, 1) := by decide +kernel
theorem d_Tb_digestSecret_180 : decode c_Tb_digestSecret 180 = .ok (.ladd, 1) := by decide +kernel
theorem d_Tb_digestSecret_181 : decode c_Tb_digestSecret 181 = .ok (.lreturn, 1) := by decide +kernel
set_option maxHeartbeats 4000000 in
set_option maxRecDepth 100000 in
theorem m_Tb_digestSecret {g0 : State} {d : zD} {l : Launch} {a0 : Array Value} (hs0 : zS0 d a0 g0) (hst : l.stackTraces = false) {G : zG} {A : Nat → Nat} {D : Nat → UInt64} {V : Nat → Nat → Int32} {nk ns : Nat} (hT : zT d A D V nk ns G) {si : Nat} (hsi : si < ns) (x : Int64) : zMet g0 d l y_Tb_digestSecret c_Tb_digestSecret 8 ((Option.some Jvm.ClassFile.FieldType.long)) 15 0 0 [.ref (A 0), .long x, .ref (A (200 + si))] (G) (zTu d A nk ns V G zrL) (zNo) := by
  have hG_Tb := hT.tb
  have hnk : nk ≤ 8 := hT.2.1
  have hns : ns ≤ 6 := hT.2.2.1
  refine z_entry hs0 hst (by decide) (Nat.le_of_ble_eq_true rfl) (fun p e s m args below meth c => ?_)
  refine z_lload_n 1 d_Tb_digestSecret_0 rfl rfl ?_
  refine z_lstore (L' := [(4, _), (0, _), (1, _), (3, _)]) d_Tb_digestSecret_1 (by decide) rfl ?_
  refine z_iconst (v := (nI 0)) d_Tb_digestSecret_3 (by decide) ?_
  refine z_istore (L' := [(6, _), (4, _), (0, _), (1, _), (3, _)]) d_Tb_digestSecret_4 (by decide) rfl ?_
  have key_6 : ∀ (n : Nat) (w : Nat) (v : Int64), 9 - w < n → (w ≤ 9) → Z g0 d y_Tb_digestSecret c_Tb_digestSecret 8 ((Option.some Jvm.ClassFile.FieldType.long)) [] p l e (zR 15 0 0) s m args below meth c (vx_MQ below (zQc g0 d (zTu d A nk ns V G zrL)) (zXc g0 d (zNo)) args s 0 0 (zA g0)) 0 0 (G) [(6, .int (nI w)), (4, .long v), (0, .ref (A 0)), (1, .long x), (3, .ref (A (200 + si)))] [] 6 := by
    intro n
    induction n with
    | zero => intro w v h0; exact absurd h0 (Nat.not_lt_zero _)
    | succ n ih_6 =>
      intro w v hm_6 hw
      refine z_iload 0 d_Tb_digestSecret_6 rfl ?_
      refine z_bipush (v := (nI 8)) d_Tb_digestSecret_8 (by decide) ?_
      refine z_icmp_gt 36 d_Tb_digestSecret_10 (by decide) (fun c_10 => ?_) (fun c_10 => ?_)
      · skip
        refine z_iconst (v := (nI 0)) d_Tb_digestSecret_36 (by decide) ?_
        refine z_istore (L' := [(6, _), (4, _), (0, _), (1, _), (3, _)]) d_Tb_digestSecret_37 (by decide) rfl ?_
        have key_39 : ∀ (n : Nat) (i : Nat) (v : Int64), nk - i < n → (i ≤ nk) → Z g0 d y_Tb_digestSecret c_Tb_digestSecret 8 ((Option.some Jvm.ClassFile.FieldType.long)) [] p l e (zR 15 0 0) s m args below meth c (vx_MQ below (zQc g0 d (zTu d A nk ns V G zrL)) (zXc g0 d (zNo)) args s 0 0 (zA g0)) 0 0 (G) [(6, .int (nI i)), (4, .long v), (0, .ref (A 0)), (1, .long x), (3, .ref (A (200 + si)))] [] 39 := by
          intro n
          induction n with
          | zero => intro i v h0; exact absurd h0 (Nat.not_lt_zero _)
          | succ n ih_39 =>
            intro i v hm_39 hi
            refine z_iload 0 d_Tb_digestSecret_39 rfl ?_
            refine z_aload_n 2 d_Tb_digestSecret_41 rfl rfl ?_
            refine z_get zc_Tb 0 (by decide) qF_Tb_10 (by first | exact hT4.tb | exact hT3.tb | exact hT.tb) rfl d_Tb_digestSecret_42 ?_
            refine z_callV0 (m_AL_size hs0 hst hT.kl) ym_AL_size qM_Tb_68 qI_AL_size qV_AL_AL_size zc_AL hT.kl d_Tb_digestSecret_45 rfl (Nat.le_of_ble_eq_true rfl) ⟨Nat.zero_le _, Nat.zero_le _⟩ ⟨Nat.le_of_ble_eq_true rfl, Nat.le_of_ble_eq_true rfl⟩ ?_
            refine z_icmp_ge 101 d_Tb_digestSecret_48 (by decide) (fun c_48 => ?_) (fun c_48 => ?_)
            · skip
              refine z_aload_n 2 d_Tb_digestSecret_101 rfl rfl ?_
              refine z_aload_n 4 d_Tb_digestSecret_102 rfl rfl ?_
              refine z_aload_n 2 d_Tb_digestSecret_103 rfl rfl ?_
              refine z_callV0 (m_Tb_allKeepers hs0 hst hT) ym_Tb_allKeepers qM_Tb_329 qI_Tb_allKeepers qV_Tb_Tb_allKeepers zc_Tb (by first | exact hT4.tb | exact hT3.tb | exact hT.tb) d_Tb_digestSecret_104 rfl (Nat.le_of_ble_eq_true rfl) ⟨Nat.zero_le _, Nat.zero_le _⟩ ⟨Nat.le_of_ble_eq_true rfl, Nat.le_of_ble_eq_true rfl⟩ ?_
              refine z_callVp0 (m_Tb_gatherGroup hs0 hst hT hsi _) ym_Tb_gatherGroup qM_Tb_184 qI_Tb_gatherGroup qV_Tb_Tb_gatherGroup zc_Tb (by first | exact hT4.tb | exact hT3.tb | exact hT.tb) d_Tb_digestSecret_107 rfl (Nat.le_of_ble_eq_true rfl) ⟨Nat.zero_le _, Nat.zero_le _⟩ ⟨Nat.le_of_ble_eq_true rfl, Nat.le_of_ble_eq_true rfl⟩ (fun r_107 G_107 hp_107 => ?_)
              obtain ⟨hr_107, D3, V3, hT3, hK3, hF3⟩ := hp_107
              obtain rfl : r_107 = none := hr_107
              obtain ⟨q9, hq9, hg9⟩ := hT3.dec
              refine z_aload_n 2 d_Tb_digestSecret_110 rfl rfl ?_
              refine z_get zc_Tb 4 (by decide) qF_Tb_36 (by first | exact hT4.tb | exact hT3.tb | exact hT.tb) rfl d_Tb_digestSecret_111 ?_
              refine z_callVp0 (m_Gr_decode hs0 hst hg9 hq9) ym_Gr_decode qM_Tb_188 qI_Gr_decode qV_Gr_Gr_decode zc_Gr hT3.gr d_Tb_digestSecret_114 rfl (Nat.le_of_ble_eq_true rfl) ⟨Nat.zero_le _, Nat.zero_le _⟩ ⟨Nat.le_of_ble_eq_true rfl, Nat.le_of_ble_eq_true rfl⟩ (fun r_114 G_114 hp_114 => ?_)
              obtain ⟨hr_114, hg_114⟩ := hp_114
              obtain rfl : r_114 = none := hr_114
              obtain ⟨V4, hT4, hK4, hF4⟩ := hT3.putg (V3 12 0) _ _ (p := nI q9) ⟨q9, hq9, rfl⟩
              rw [← hg_114] at hT4 hF4
              refine z_iconst (v := (nI 0)) d_Tb_digestSecret_117 (by decide) ?_
              refine z_istore (L' := [(6, _), (4, _), (0, _), (1, _), (3, _)]) d_Tb_digestSecret_118 (by decide) rfl ?_
              have key_120 : ∀ (n : Nat) (w : Nat) (v : Int64), 6 - w < n → (w ≤ 6) → Z g0 d y_Tb_digestSecret c_Tb_digestSecret 8 ((Option.some Jvm.ClassFile.FieldType.long)) [] p l e (zR 15 0 0) s m args below meth c (vx_MQ below (zQc g0 d (zTu d A nk ns V G zrL)) (zXc g0 d (zNo)) args s 0 0 (zA g0)) 0 0 (G_114) [(6, .int (nI w)), (4, .long v), (0, .ref (A 0)), (1, .long x), (3, .ref (A (200 + si)))] [] 120 := by
                intro n
                induction n with
                | zero => intro w v h0; exact absurd h0 (Nat.not_lt_zero _)
                | succ n ih_120 =>
                  intro w v hm_120 hw
                  refine z_iload 0 d_Tb_digestSecret_120 rfl ?_
                  refine z_iconst (v := (nI 5)) d_Tb_digestSecret_122 (by decide) ?_
                  refine z_icmp_gt 149 d_Tb_digestSecret_123 (by decide) (fun c_123 => ?_) (fun c_123 => ?_)
                  · skip
                    refine z_lload 1 d_Tb_digestSecret_149 rfl ?_
                    refine z_ldc2 qXl_Tb_316 d_Tb_digestSecret_151 ?_
                    refine z_lmul d_Tb_digestSecret_154 ?_
                    refine z_aload_n 2 d_Tb_digestSecret_155 rfl rfl ?_
                    refine z_aload_n 4 d_Tb_digestSecret_156 rfl rfl ?_
                    refine z_callVp0 (m_Tb_fewestOf hs0 hst hT4 (hT4.se hsi)) ym_Tb_fewestOf qM_Tb_298 qI_Tb_fewestOf qV_Tb_Tb_fewestOf zc_Tb (by first | exact hT4.tb | exact hT3.tb | exact hT.tb) d_Tb_digestSecret_157 rfl (Nat.le_of_ble_eq_true rfl) ⟨Nat.zero_le _, Nat.zero_le _⟩ ⟨Nat.le_of_ble_eq_true rfl, Nat.le_of_ble_eq_true rfl⟩ (fun r_157 G_157 hp_157 => ?_)
                    obtain ⟨⟨v_157, rfl⟩, rfl⟩ := hp_157
                    refine z_i2l d_Tb_digestSecret_160 rfl ?_
                    refine z_ladd d_Tb_digestSecret_161 ?_
                    refine z_lstore (L' := [(4, _), (6, _), (0, _), (1, _), (3, _)]) d_Tb_digestSecret_162 (by decide) rfl ?_
                    refine z_lload 0 d_Tb_digestSecret_164 rfl ?_
                    refine z_ldc2 qXl_Tb_316 d_Tb_digestSecret_166 ?_
                    refine z_lmul d_Tb_digestSecret_169 ?_
                    refine z_ldc2d qXd_Tb_332 d_Tb_digestSecret_170 ?_
                    refine z_aload_n 2 d_Tb_digestSecret_173 rfl rfl ?_
                    refine z_aload_n 4 d_Tb_digestSecret_174 rfl rfl ?_
                    refine z_callVp0 (m_Tb_chanceLost hs0 hst hT4 hsi) ym_Tb_chanceLost qM_Tb_294 qI_Tb_chanceLost qV_Tb_Tb_chanceLost zc_Tb (by first | exact hT4.tb | exact hT3.tb | exact hT.tb) d_Tb_digestSecret_175 rfl (Nat.le_of_ble_eq_true rfl) ⟨Nat.zero_le _, Nat.zero_le _⟩ ⟨Nat.le_of_ble_eq_true rfl, Nat.le_of_ble_eq_true rfl⟩ (fun r_175 G_175 hp_175 => ?_)
                    obtain ⟨⟨u9, rfl, hu9⟩, D5, V5, hT5, hK5, hF5⟩ := hp_175
                    refine z_dmul d_Tb_digestSecret_178 ((show zmg (FP.dmul 4661225614328463360 u9) 2000 from zmg_k hu9).nn (by decide)) ?_
                    refine z_d2l d_Tb_digestSecret_179 ?_
                    refine z_ladd d_Tb_digestSecret_180 ?_
                    exact z_lret rfl (⟨⟨_, rfl⟩, D5, V5, hT5, (hK3.tr hK4).tr hK5, (hF3.tr hF4).tr hF5⟩) (by first | decide | omega) (by first | decide | omega) d_Tb_digestSecret_181
                  · skip
                    have hw6 : w ≤ 5 := Nat.le_of_not_lt fun q => c_123 ((nI_ltI (a := 5) (b := w) (by decide) (by omega)).mpr q)
                    refine z_lload 1 d_Tb_digestSecret_126 rfl ?_
                    refine z_ldc2 qXl_Tb_316 d_Tb_digestSecret_128 ?_
                    refine z_lmul d_Tb_digestSecret_131 ?_
                    refine z_aload_n 2 d_Tb_digestSecret_132 rfl rfl ?_
                    refine z_aload_n 4 d_Tb_digestSecret_133 rfl rfl ?_
                    refine z_iload 0 d_Tb_digestSecret_134 rfl ?_
                    refine z_callVp0 (m_Tb_tellOfGroup hs0 hst hT4 hsi (nI w)) ym_Tb_tellOfGroup qM_Tb_283 qI_Tb_tellOfGroup qV_Tb_Tb_tellOfGroup zc_Tb (by first | exact hT4.tb | exact hT3.tb | exact hT.tb) d_Tb_digestSecret_136 rfl (Nat.le_of_ble_eq_true rfl) ⟨Nat.zero_le _, Nat.zero_le _⟩ ⟨Nat.le_of_ble_eq_true rfl, Nat.le_of_ble_eq_true rfl⟩ (fun r_136 G_136 hp_136 => ?_)
                    obtain ⟨⟨v_136, rfl⟩, rfl⟩ := hp_136
                    refine z_i2l d_Tb_digestSecret_139 rfl ?_
                    refine z_ladd d_Tb_digestSecret_140 ?_
                    refine z_lstore (L' := [(4, _), (6, _), (0, _), (1, _), (3, _)]) d_Tb_digestSecret_141 (by decide) rfl ?_
                    refine z_iinc (v := nI (w + 1)) (L' := [(6, _), (4, _), (0, _), (1, _), (3, _)]) 1 d_Tb_digestSecret_143 rfl (nI_1 w) (by decide) rfl ?_
                    refine z_goto 120 d_Tb_digestSecret_146 (by decide) ?_
                    exact ih_120 (w + 1) _ (by omega) (by omega)
              exact key_120 7 0 _ (by omega) (by omega)
            · skip
              have hi6 : i < nk := Nat.lt_of_not_le fun q => c_48 (nI_le q (by omega))
              refine z_iconst (v := (nI 0)) d_Tb_digestSecret_51 (by decide) ?_
              refine z_istore (L' := [(7, _), (6, _), (4, _), (0, _), (1, _), (3, _)]) d_Tb_digestSecret_52 (by decide) rfl ?_
              have key_54 : ∀ (n : Nat) (w : Nat) (v : Int64), 3 - w < n → (w ≤ 3) → Z g0 d y_Tb_digestSecret c_Tb_digestSecret 8 ((Option.some Jvm.ClassFile.FieldType.long)) [] p l e (zR 15 0 0) s m args below meth c (vx_MQ below (zQc g0 d (zTu d A nk ns V G zrL)) (zXc g0 d (zNo)) args s 0 0 (zA g0)) 0 0 (G) [(7, .int (nI w)), (6, .int (nI i)), (4, .long v), (0, .ref (A 0)), (1, .long x), (3, .ref (A (200 + si)))] [] 54 := by
                intro n
                induction n with
                | zero => intro w v h0; exact absurd h0 (Nat.not_lt_zero _)
                | succ n ih_54 =>
                  intro w v hm_54 hw
                  refine z_iload 0 d_Tb_digestSecret_54 rfl ?_
                  refine z_iconst (v := (nI 2)) d_Tb_digestSecret_56 (by decide) ?_
                  refine z_icmp_gt 95 d_Tb_digestSecret_57 (by decide) (fun c_57 => ?_) (fun c_57 => ?_)
                  · skip
                    refine z_iinc (v := nI (i + 1)) (L' := [(6, _), (7, _), (4, _), (0, _), (1, _), (3, _)]) 1 d_Tb_digestSecret_95 rfl (nI_1 i) (by decide) rfl ?_
                    refine z_goto 39 d_Tb_digestSecret_98 (by decide) ?_
                    refine z_sub (L' := [(6, _), (4, _), (0, _), (1, _), (3, _)]) [0, 2, 3, 4, 5] rfl ?_
                    exact ih_39 (i + 1) _ (by omega) (by omega)
                  · skip
                    have hw6 : w ≤ 2 := Nat.le_of_not_lt fun q => c_57 ((nI_ltI (a := 2) (b := w) (by decide) (by omega)).mpr q)
                    refine z_lload 2 d_Tb_digestSecret_60 rfl ?_
                    refine z_ldc2 qXl_Tb_316 d_Tb_digestSecret_62 ?_
                    refine z_lmul d_Tb_digestSecret_65 ?_
                    refine z_aload_n 3 d_Tb_digestSecret_66 rfl rfl ?_
                    refine z_aload_n 5 d_Tb_digestSecret_67 rfl rfl ?_
                    refine z_aload_n 3 d_Tb_digestSecret_68 rfl rfl ?_
                    refine z_get zc_Tb 0 (by decide) qF_Tb_10 (by first | exact hT4.tb | exact hT3.tb | exact hT.tb) rfl d_Tb_digestSecret_69 ?_
                    refine z_iload 1 d_Tb_digestSecret_72 rfl ?_
                    refine z_callV0 (m_AL_get hs0 hst (hT.kA hi6) hi6 (if_pos hi6)) ym_AL_get qM_Tb_166 qI_AL_get qV_AL_AL_get zc_AL (hT.kA hi6).1 d_Tb_digestSecret_74 rfl (Nat.le_of_ble_eq_true rfl) ⟨Nat.zero_le _, Nat.zero_le _⟩ ⟨Nat.le_of_ble_eq_true rfl, Nat.le_of_ble_eq_true rfl⟩ ?_
                    refine z_castS zc_Ke qK_Tb_77 (hT.ke hi6) d_Tb_digestSecret_77 ?_
                    refine z_iload 0 d_Tb_digestSecret_80 rfl ?_
                    refine z_callVp0 (m_Tb_tellOfShare hs0 hst hT hsi hi6 (nI w)) ym_Tb_tellOfShare qM_Tb_244 qI_Tb_tellOfShare qV_Tb_Tb_tellOfShare zc_Tb (by first | exact hT4.tb | exact hT3.tb | exact hT.tb) d_Tb_digestSecret_82 rfl (Nat.le_of_ble_eq_true rfl) ⟨Nat.zero_le _, Nat.zero_le _⟩ ⟨Nat.le_of_ble_eq_true rfl, Nat.le_of_ble_eq_true rfl⟩ (fun r_82 G_82 hp_82 => ?_)
                    obtain ⟨⟨v_82, rfl⟩, rfl⟩ := hp_82
                    refine z_i2l d_Tb_digestSecret_85 rfl ?_
                    refine z_ladd d_Tb_digestSecret_86 ?_
                    refine z_lstore (L' := [(4, _), (7, _), (6, _), (0, _), (1, _), (3, _)]) d_Tb_digestSecret_87 (by decide) rfl ?_
                    refine z_iinc (v := nI (w + 1)) (L' := [(7, _), (4, _), (6, _), (0, _), (1, _), (3, _)]) 1 d_Tb_digestSecret_89 rfl (nI_1 w) (by decide) rfl ?_
                    refine z_goto 54 d_Tb_digestSecret_92 (by decide) ?_
                    refine z_sub (L' := [(7, _), (6, _), (4, _), (0, _), (1, _), (3, _)]) [0, 2, 1, 3, 4, 5] rfl ?_
                    exact ih_54 (w + 1) _ (by omega) (by omega)
              exact key_54 4 0 _ (by omega) (by omega)
        exact key_39 (nk + 1) 0 _ (by omega) (by omega)
      · skip
        have hw6 : w ≤ 8 := Nat.le_of_not_lt fun q => c_10 ((nI_ltI (a := 8) (b := w) (by decide) (by omega)).mpr q)
        refine z_lload 1 d_Tb_digestSecret_13 rfl ?_
        refine z_ldc2 qXl_Tb_316 d_Tb_digestSecret_15 ?_
        refine z_lmul d_Tb_digestSecret_18 ?_
        refine z_aload_n 2 d_Tb_digestSecret_19 rfl rfl ?_
        refine z_aload_n 4 d_Tb_digestSecret_20 rfl rfl ?_
        refine z_iload 0 d_Tb_digestSecret_21 rfl ?_
        refine z_callVp0 (m_Tb_tellOfSecret hs0 hst hT hsi (nI w)) ym_Tb_tellOfSecret qM_Tb_238 qI_Tb_tellOfSecret qV_Tb_Tb_tellOfSecret zc_Tb (by first | exact hT4.tb | exact hT3.tb | exact hT.tb) d_Tb_digestSecret_23 rfl (Nat.le_of_ble_eq_true rfl) ⟨Nat.zero_le _, Nat.zero_le _⟩ ⟨Nat.le_of_ble_eq_true rfl, Nat.le_of_ble_eq_true rfl⟩ (fun r_23 G_23 hp_23 => ?_)
        obtain ⟨⟨v_23, rfl⟩, rfl⟩ := hp_23
        refine z_i2l d_Tb_digestSecret_26 rfl ?_
        refine z_ladd d_Tb_digestSecret_27 ?_
        refine z_lstore (L' := [(4, _), (6, _), (0, _), (1, _), (3, _)]) d_Tb_digestSecret_28 (by decide) rfl ?_
        refine z_iinc (v := nI (w + 1)) (L' := [(6, _), (4, _), (0, _), (1, _), (3, _)]) 1 d_Tb_digestSecret_30 rfl (nI_1 w) (by decide) rfl ?_
        refine z_goto 6 d_Tb_digestSecret_33 (by decide) ?_
        exact ih_6 (w + 1) _ (by omega) (by omega)
  exact key_6 10 0 _ (by omega) (by omega)
theorem d_Tb_digest_0 : decode c_Tb_digest 0 = .ok (.ldc2_w 314, 3) := by decide +kernel
theorem d_Tb_digest_3 : decode c_Tb_digest 3 = .ok (.lstore_n 1, 1) := by decide +kernel
theorem d_Tb_digest_4 : decode c_Tb_digest 4 = .ok (.iconst 0, 1) := by decide +kernel
theorem d_Tb_digest_5 : decode c_Tb_digest 5 = .ok (.istore_n 3, 1) := by decide +kernel
theorem d_Tb_digest_6 : decode c_Tb_digest 6 = .ok (.iload_n 3, 1) := by decide +kernel
theorem d_Tb_digest_7 : decode c_Tb_digest 7 = .ok (.bipush 11, 2) := by decide +kernel
theorem d_Tb_digest_9 : decode c_Tb_digest 9 = .ok (.if_icmp .gt 22, 3) := by decide +kernel
theorem d_Tb_digest_12 : decode c_Tb_digest 12 = .ok (.lload_n 1, 1) := by decide +kernel
theorem d_Tb_digest_13 : decode c_Tb_digest 13 = .ok (.ldc2_w 316, 3) := by decide +kernel
theorem d_Tb_digest_16 : decode c_Tb_digest 16 = .ok (.lmul, 1) := by decide +kernel
theorem d_Tb_digest_17 : decode c_Tb_digest 17 = .ok (.aload_n 0, 1) := by decide +kernel
theorem d_Tb_digest_18 : decode c_Tb_digest 18 = .ok (.iload_n 3, 1) := by decide +kernel
theorem d_Tb_digest_19 : decode c_Tb_digest 19 = .ok (.invokevirtual 250, 3) := by decide +kernel
theorem d_Tb_digest_22 : decode c_Tb_digest 22 = .ok (.i2l, 1) := by decide +kernel
theorem d_Tb_digest_23 : decode c_Tb_digest 23 = .ok (.ladd, 1) := by decide +kernel
theorem d_Tb_digest_24 : decode c_Tb_digest 24 = .ok (.lstore_n 1, 1) := by decide +kernel
theorem d_Tb_digest_25 : decode c_Tb_digest 25 = .ok (.iinc 3 1, 3) := by decide +kernel
theorem d_Tb_digest_28 : decode c_Tb_digest 28 = .ok (.goto (-22), 3) := by decide +kernel
theorem d_Tb_digest_31 : decode c_Tb_digest 31 = .ok (.iconst 0, 1) := by decide +kernel
theorem d_Tb_digest_32 : decode c_Tb_digest 32 = .ok (.istore_n 3, 1) := by decide +kernel
theorem d_Tb_digest_33 : decode c_Tb_digest 33 = .ok (.iload_n 3, 1) := by decide +kernel
theorem d_Tb_digest_34 : decode c_Tb_digest 34 = .ok (.aload_n 0, 1) := by decide +kernel
theorem d_Tb_digest_35 : decode c_Tb_digest 35 = .ok (.getfield 10, 3) := by decide +kernel
theorem d_Tb_digest_38 : decode c_Tb_digest 38 = .ok (.invokevirtual 68, 3) := by decide +kernel
theorem d_Tb_digest_41 : decode c_Tb_digest 41 = .ok (.if_icmp .ge 50, 3) := by decide +kernel
theorem d_Tb_digest_44 : decode c_Tb_digest 44 = .ok (.iconst 0, 1) := by decide +kernel
theorem d_Tb_digest_45 : decode c_Tb_digest 45 = .ok (.istore 4, 2) := by decide +kernel
theorem d_Tb_digest_47 : decode c_Tb_digest 47 = .ok (.iload 4, 2) := by decide +kernel
theorem d_Tb_digest_49 : decode c_Tb_digest 49 = .ok (.bipush 6, 2) := by decide +kernel
theorem d_Tb_digest_51 : decode c_Tb_digest 51 = .ok (.if_icmp .gt 34, 3) := by decide +kernel
theorem d_Tb_digest_54 : decode c_Tb_digest 54 = .ok (.lload_n 1, 1) := by decide +kernel
theorem d_Tb_digest_55 : decode c_Tb_digest 55 = .ok (.ldc2_w 316, 3) := by decide +kernel
theorem d_Tb_digest_58 : decode c_Tb_digest 58 = .ok (.lmul, 1) := by decide +kernel
theorem d_Tb_digest_59 : decode c_Tb_digest 59 = .ok (.aload_n 0, 1) := by decide +kernel
theorem d_Tb_digest_60 : decode c_Tb_digest 60 = .ok (.aload_n 0, 1) := by decide +kernel
theorem d_Tb_digest_61 : decode c_Tb_digest 61 = .ok (.getfield 10, 3) := by decide +kernel
theorem d_Tb_digest_64 : decode c_Tb_digest 64 = .ok (.iload_n 3, 1) := by decide +kernel
theorem d_Tb_digest_65 : decode c_Tb_digest 65 = .ok (.invokevirtual 166, 3) := by decide +kernel
theorem d_Tb_digest_68 : decode c_Tb_digest 68 = .ok (.checkcast 77, 3) := by decide +kernel
theorem d_Tb_digest_71 : decode c_Tb_digest 71 = .ok (.iload 4, 2) := by decide +kernel
theorem d_Tb_digest_73 : decode c_Tb_digest 73 = .ok (.invokevirtual 232, 3) := by decide +kernel
theorem d_Tb_digest_76 : decode c_Tb_digest 76 = .ok (.i2l, 1) := by decide +kernel
theorem d_Tb_digest_77 : decode c_Tb_digest 77 = .ok (.ladd, 1) := by decide +kernel
theorem d_Tb_digest_78 : decode c_Tb_digest 78 = .ok (.lstore_n 1, 1) := by decide +kernel
theorem d_Tb_digest_79 : decode c_Tb_digest 79 = .ok (.iinc 4 1, 3) := by decide +kernel
theorem d_Tb_digest_82 : decode c_Tb_digest 82 = .ok (.goto (-35), 3) := by decide +kernel
theorem d_Tb_digest_85 : decode c_Tb_digest 85 = .ok (.iinc 3 1, 3) := by decide +kernel
theorem d_Tb_digest_88 : decode c_Tb_digest 88 = .ok (.goto (-55), 3) := by decide +kernel
theorem d_Tb_digest_91 : decode c_Tb_digest 91 = .ok (.iconst 0, 1) := by decide +kernel
theorem d_Tb_digest_92 : decode c_Tb_digest 92 = .ok (.istore_n 3, 1) := by decide +kernel
theorem d_Tb_digest_93 : decode c_Tb_digest 93 = .ok (.iload_n 3, 1) := by decide +kernel
theorem d_Tb_digest_94 : decode c_Tb_digest 94 = .ok (.aload_n 0, 1) := by decide +kernel
theorem d_Tb_digest_95 : decode c_Tb_digest 95 = .ok (.getfield 16, 3) := by decide +kernel
theorem d_Tb_digest_98 : decode c_Tb_digest 98 = .ok (.invokevirtual 68, 3) := by decide +kernel
theorem d_Tb_digest_101 : decode c_Tb_digest 101 = .ok (.if_icmp .ge 26, 3) := by decide +kernel
theorem d_Tb_digest_104 : decode c_Tb_digest 104 = .ok (.aload_n 0, 1) := by decide +kernel
theorem d_Tb_digest_105 : decode c_Tb_digest 105 = .ok (.lload_n 1, 1) := by decide +kernel
theorem d_Tb_digest_106 : decode c_Tb_digest 106 = .ok (.aload_n 0, 1) := by decide +kernel
theorem d_Tb_digest_107 : decode c_Tb_digest 107 = .ok (.getfield 16, 3) := by decide +kernel
theorem d_Tb_digest_110 : decode c_Tb_digest 110 = .ok (.iload_n 3, 1) := by decide +kernel
theorem d_Tb_digest_111 : decode c_Tb_digest 111 = .ok (.invokevirtual 166, 3) := by decide +kernel
theorem d_Tb_digest_114 : decode c_Tb_digest 114 = .ok (.checkcast 115, 3) := by decide +kernel
theorem d_Tb_digest_117 : decode c_Tb_digest 117 = .ok (.invokevirtual 318, 3) := by decide +kernel
theorem d_Tb_digest_120 : decode c_Tb_digest 120 = .ok (.lstore_n 1, 1) := by decide +kernel
theorem d_Tb_digest_121 : decode c_Tb_digest 121 = .ok (.iinc 3 1, 3) := by decide +kernel
theorem d_Tb_digest_124 : decode c_Tb_digest 124 = .ok (.goto (-31), 3) := by decide +kernel
theorem d_Tb_digest_127 : decode c_Tb_digest 127 = .ok (.iconst 0, 1) := by decide +kernel
theorem d_Tb_digest_128 : decode c_Tb_digest 128 = .ok (.istore_n 3, 1) := by decide +kernel
theorem d_Tb_digest_129 : decode c_Tb_digest 129 = .ok (.iload_n 3, 1) := by decide +kernel
theorem d_Tb_digest_130 : decode c_Tb_digest 130 = .ok (.aload_n 0, 1) := by decide +kernel
theorem d_Tb_digest_131 : decode c_Tb_digest 131 = .ok (.getfield 22, 3) := by decide +kernel
theorem d_Tb_digest_134 : decode c_Tb_digest 134 = .ok (.invokevirtual 322, 3) := by decide +kernel
theorem d_Tb_digest_137 : decode c_Tb_digest 137 = .ok (.if_icmp .ge 25, 3) := by decide +kernel
theorem d_Tb_digest_140 : decode c_Tb_digest 140 = .ok (.lload_n 1, 1) := by decide +kernel
theorem d_Tb_digest_141 : decode c_Tb_digest 141 = .ok (.ldc2_w 316, 3) := by decide +kernel
theorem d_Tb_digest_144 : decode c_Tb_digest 144 = .ok (.lmul, 1) := by decide +kernel
theorem d_Tb_digest_145 : decode c_Tb_digest 145 = .ok (.aload_n 0, 1) := by decide +kernel
theorem d_Tb_digest_146 : decode c_Tb_digest 146 = .ok (.getfield 22, 3) := by decide +kernel
theorem d_Tb_digest_149 : decode c_Tb_digest 149 = .ok (.iload_n 3, 1) := by decide +kernel
theorem d_Tb_digest_150 : decode c_Tb_digest 150 = .ok (.invokevirtual 323, 3) := by decide +kernel
theorem d_Tb_digest_153 : decode c_Tb_digest 153 = .ok (.i2l, 1) := by decide +kernel
theorem d_Tb_digest_154 : decode c_Tb_digest 154 = .ok (.ladd, 1) := by decide +kernel
theorem d_Tb_digest_155 : decode c_Tb_digest 155 = .ok (.lstore_n 1, 1) := by decide +kernel
theorem d_Tb_digest_156 : decode c_Tb_digest 156 = .ok (.iinc 3 1, 3) := by decide +kernel
theorem d_Tb_digest_159 : decode c_Tb_digest 159 = .ok (.goto (-30), 3) := by decide +kernel
theorem d_Tb_digest_162 : decode c_Tb_digest 162 = .ok (.lload_n 1, 1) := by decide +kernel
theorem d_Tb_digest_163 : decode c_Tb_digest 163 = .ok (.ldc2_w 316, 3) := by decide +kernel
theorem d_Tb_digest_166 : decode c_Tb_digest 166 = .ok (.lmul, 1) := by decide +kernel
theorem d_Tb_digest_167 : decode c_Tb_digest 167 = .ok (.aload_n 0, 1) := by decide +kernel
theorem d_Tb_digest_168 : decode c_Tb_digest 168 = .ok (.invokevirtual 326, 3) := by decide +kernel
theorem d_Tb_digest_171 : decode c_Tb_digest 171 = .ok (.ifCond .eq 7, 3) := by decide +kernel
theorem d_Tb_digest_174 : decode c_Tb_digest 174 = .ok (.iconst 1, 1) := by decide +kernel
theorem d_Tb_digest_175 : decode c_Tb_digest 175 = .ok (.goto 4, 3) := by decide +kernel
theorem d_Tb_digest_178 : decode c_Tb_digest 178 = .ok (.iconst 0, 1) := by decide +kernel
theorem d_Tb_digest_179 : decode c_Tb_digest 179 = .ok (.i2l, 1) := by decide +kernel
theorem d_Tb_digest_180 : decode c_Tb_digest 180 = .ok (.ladd, 1) := by decide +kernel
theorem d_Tb_digest_181 : decode c_Tb_digest 181 = .ok (.lreturn, 1) := by decide +kernel
set_option maxHeartbeats 4000000 in
set_option maxRecDepth 100000 in
theorem m_Tb_digest {g0 : State} {d : zD} {l : Launch} {a0 : Array Value} (hs0 : zS0 d a0 g0) (hst : l.stackTraces = false) {G : zG} {A : Nat → Nat} {D : Nat → UInt64} {V : Nat → Nat → Int32} {nk ns : Nat} (hT : zT d A D V nk ns G) : zMet g0 d l y_Tb_digest c_Tb_digest 5 ((Option.some Jvm.ClassFile.FieldType.long)) 16 0 0 [.ref (A 0)] (G) (zTu d A nk ns V G zrL) (zNo) := by
  have hG_Tb := hT.tb
  have hnk : nk ≤ 8 := hT.2.1
  have hns : ns ≤ 6 := hT.2.2.1
  refine z_entry hs0 hst (by decide) (Nat.le_of_ble_eq_true rfl) (fun p e s m args below meth c => ?_)
  refine z_ldc2 qXl_Tb_314 d_Tb_digest_0 ?_
  refine z_lstore_n (L' := [(1, _), (0, _)]) d_Tb_digest_3 rfl (by decide) rfl ?_
  refine z_iconst (v := (nI 0)) d_Tb_digest_4 (by decide) ?_
  refine z_istore_n (L' := [(3, _), (1, _), (0, _)]) d_Tb_digest_5 rfl (by decide) rfl ?_
  have key_6 : ∀ (n : Nat) (w : Nat) (v : Int64), 12 - w < n → (w ≤ 12) → Z g0 d y_Tb_digest c_Tb_digest 5 ((Option.some Jvm.ClassFile.FieldType.long)) [] p l e (zR 16 0 0) s m args below meth c (vx_MQ below (zQc g0 d (zTu d A nk ns V G zrL)) (zXc g0 d (zNo)) args s 0 0 (zA g0)) 0 0 (G) [(3, .int (nI w)), (1, .long v), (0, .ref (A 0))] [] 6 := by
    intro n
    induction n with
    | zero => intro w v h0; exact absurd h0 (Nat.not_lt_zero _)
    | succ n ih_6 =>
      intro w v hm_6 hw
      refine z_iload_n 0 d_Tb_digest_6 rfl rfl ?_
      refine z_bipush (v := (nI 11)) d_Tb_digest_7 (by decide) ?_
      refine z_icmp_gt 31 d_Tb_digest_9 (by decide) (fun c_9 => ?_) (fun c_9 => ?_)
      · skip
        refine z_iconst (v := (nI 0)) d_Tb_digest_31 (by decide) ?_
        refine z_istore_n (L' := [(3, _), (1, _), (0, _)]) d_Tb_digest_32 rfl (by decide) rfl ?_
        have key_33 : ∀ (n : Nat) (i : Nat) (v : Int64), nk - i < n → (i ≤ nk) → Z g0 d y_Tb_digest c_Tb_digest 5 ((Option.some Jvm.ClassFile.FieldType.long)) [] p l e (zR 16 0 0) s m args below meth c (vx_MQ below (zQc g0 d (zTu d A nk ns V G zrL)) (zXc g0 d (zNo)) args s 0 0 (zA g0)) 0 0 (G) [(3, .int (nI i)), (1, .long v), (0, .ref (A 0))] [] 33 := by
          intro n
          induction n with
          | zero => intro i v h0; exact absurd h0 (Nat.not_lt_zero _)
          | succ n ih_33 =>
            intro i v hm_33 hi
            refine z_iload_n 0 d_Tb_digest_33 rfl rfl ?_
            refine z_aload_n 2 d_Tb_digest_34 rfl rfl ?_
            refine z_get zc_Tb 0 (by decide) qF_Tb_10 (by first | exact hT2.tb | exact hT.tb) rfl d_Tb_digest_35 ?_
            refine z_callV0 (m_AL_size hs0 hst hT.kl) ym_AL_size qM_Tb_68 qI_AL_size qV_AL_AL_size zc_AL hT.kl d_Tb_digest_38 rfl (Nat.le_of_ble_eq_true rfl) ⟨Nat.zero_le _, Nat.zero_le _⟩ ⟨Nat.le_of_ble_eq_true rfl, Nat.le_of_ble_eq_true rfl⟩ ?_
            refine z_icmp_ge 91 d_Tb_digest_41 (by decide) (fun c_41 => ?_) (fun c_41 => ?_)
            · skip
              refine z_iconst (v := (nI 0)) d_Tb_digest_91 (by decide) ?_
              refine z_istore_n (L' := [(3, _), (1, _), (0, _)]) d_Tb_digest_92 rfl (by decide) rfl ?_
              have key_93 : ∀ (n : Nat) (i : Nat) (G2 : zG) (D2 : Nat → UInt64) (V2 : Nat → Nat → Int32) (v : Int64), ns - i < n → (i ≤ ns) → (zT d A D2 V2 nk ns G2) → (zKo V V2) → (tFr A nk ns G G2) → Z g0 d y_Tb_digest c_Tb_digest 5 ((Option.some Jvm.ClassFile.FieldType.long)) [] p l e (zR 16 0 0) s m args below meth c (vx_MQ below (zQc g0 d (zTu d A nk ns V G zrL)) (zXc g0 d (zNo)) args s 0 0 (zA g0)) 0 0 (G2) [(3, .int (nI i)), (1, .long v), (0, .ref (A 0))] [] 93 := by
                intro n
                induction n with
                | zero => intro i G2 D2 V2 v h0; exact absurd h0 (Nat.not_lt_zero _)
                | succ n ih_93 =>
                  intro i G2 D2 V2 v hm_93 hi hT2 hK2 hF2
                  refine z_iload_n 0 d_Tb_digest_93 rfl rfl ?_
                  refine z_aload_n 2 d_Tb_digest_94 rfl rfl ?_
                  refine z_get zc_Tb 1 (by decide) qF_Tb_16 (by first | exact hT2.tb | exact hT.tb) rfl d_Tb_digest_95 ?_
                  refine z_callV0 (m_AL_size hs0 hst hT2.sl) ym_AL_size qM_Tb_68 qI_AL_size qV_AL_AL_size zc_AL hT2.sl d_Tb_digest_98 rfl (Nat.le_of_ble_eq_true rfl) ⟨Nat.zero_le _, Nat.zero_le _⟩ ⟨Nat.le_of_ble_eq_true rfl, Nat.le_of_ble_eq_true rfl⟩ ?_
                  refine z_icmp_ge 127 d_Tb_digest_101 (by decide) (fun c_101 => ?_) (fun c_101 => ?_)
                  · skip
                    obtain ⟨c9, hc9, ec9, hR9⟩ := hT2.rN
                    refine z_iconst (v := (nI 0)) d_Tb_digest_127 (by decide) ?_
                    refine z_istore_n (L' := [(3, _), (1, _), (0, _)]) d_Tb_digest_128 rfl (by decide) rfl ?_
                    have key_129 : ∀ (n : Nat) (i : Nat) (v : Int64), c9 - i < n → (i ≤ c9) → Z g0 d y_Tb_digest c_Tb_digest 5 ((Option.some Jvm.ClassFile.FieldType.long)) [] p l e (zR 16 0 0) s m args below meth c (vx_MQ below (zQc g0 d (zTu d A nk ns V G zrL)) (zXc g0 d (zNo)) args s 0 0 (zA g0)) 0 0 (G2) [(3, .int (nI i)), (1, .long v), (0, .ref (A 0))] [] 129 := by
                      intro n
                      induction n with
                      | zero => intro i v h0; exact absurd h0 (Nat.not_lt_zero _)
                      | succ n ih_129 =>
                        intro i v hm_129 hi
                        refine z_iload_n 0 d_Tb_digest_129 rfl rfl ?_
                        refine z_aload_n 2 d_Tb_digest_130 rfl rfl ?_
                        refine z_get zc_Tb 2 (by decide) qF_Tb_22 (by first | exact hT2.tb | exact hT.tb) rfl d_Tb_digest_131 ?_
                        refine z_callV0 (m_Re_size hs0 hst hT2.re) ym_Re_size qM_Tb_322 qI_Re_size qV_Re_Re_size zc_Re hT2.re d_Tb_digest_134 rfl (Nat.le_of_ble_eq_true rfl) ⟨Nat.zero_le _, Nat.zero_le _⟩ ⟨Nat.le_of_ble_eq_true rfl, Nat.le_of_ble_eq_true rfl⟩ ?_
                        rw [ec9]
                        refine z_icmp_ge 162 d_Tb_digest_137 (by decide) (fun c_137 => ?_) (fun c_137 => ?_)
                        · skip
                          refine z_lload_n 1 d_Tb_digest_162 rfl rfl ?_
                          refine z_ldc2 qXl_Tb_316 d_Tb_digest_163 ?_
                          refine z_lmul d_Tb_digest_166 ?_
                          refine z_aload_n 2 d_Tb_digest_167 rfl rfl ?_
                          refine z_callVp0 (m_Tb_isSound hs0 hst hT2) ym_Tb_isSound qM_Tb_326 qI_Tb_isSound qV_Tb_Tb_isSound zc_Tb (by first | exact hT2.tb | exact hT.tb) d_Tb_digest_168 rfl (Nat.le_of_ble_eq_true rfl) ⟨Nat.zero_le _, Nat.zero_le _⟩ ⟨Nat.le_of_ble_eq_true rfl, Nat.le_of_ble_eq_true rfl⟩ (fun r_168 G_168 hp_168 => ?_)
                          obtain ⟨⟨b_168, rfl⟩, D3, V3, hT3, hK3, hF3⟩ := hp_168
                          refine z_if_eq 178 d_Tb_digest_171 (by decide) (fun c_171 => ?_) (fun c_171 => ?_)
                          · skip
                            refine z_iconst (v := 0) d_Tb_digest_178 (by decide) ?_
                            refine z_i2l d_Tb_digest_179 rfl ?_
                            refine z_ladd d_Tb_digest_180 ?_
                            exact z_lret rfl (⟨⟨_, rfl⟩, D3, V3, hT3, hK2.tr hK3, hF2.tr hF3⟩) (by first | decide | omega) (by first | decide | omega) d_Tb_digest_181
                          · skip
                            refine z_iconst (v := 1) d_Tb_digest_174 (by decide) ?_
                            refine z_goto 179 d_Tb_digest_175 (by decide) ?_
                            refine z_i2l d_Tb_digest_179 rfl ?_
                            refine z_ladd d_Tb_digest_180 ?_
                            exact z_lret rfl (⟨⟨_, rfl⟩, D3, V3, hT3, hK2.tr hK3, hF2.tr hF3⟩) (by first | decide | omega) (by first | decide | omega) d_Tb_digest_181
                        · skip
                          have hi6 : i < c9 := Nat.lt_of_not_le fun q => c_137 (nI_le q (by omega))
                          refine z_lload_n 1 d_Tb_digest_140 rfl rfl ?_
                          refine z_ldc2 qXl_Tb_316 d_Tb_digest_141 ?_
                          refine z_lmul d_Tb_digest_144 ?_
                          refine z_aload_n 2 d_Tb_digest_145 rfl rfl ?_
                          refine z_get zc_Tb 2 (by decide) qF_Tb_22 (by first | exact hT2.tb | exact hT.tb) rfl d_Tb_digest_146 ?_
                          refine z_iload_n 0 d_Tb_digest_149 rfl rfl ?_
                          refine z_callV0 (m_Re_leafOf hs0 hst hT2.rA (nI i)) ym_Re_leafOf qM_Tb_323 qI_Re_leafOf qV_Re_Re_leafOf zc_Re hT2.re d_Tb_digest_150 rfl (Nat.le_of_ble_eq_true rfl) ⟨Nat.zero_le _, Nat.zero_le _⟩ ⟨Nat.le_of_ble_eq_true rfl, Nat.le_of_ble_eq_true rfl⟩ ?_
                          refine z_i2l d_Tb_digest_153 rfl ?_
                          refine z_ladd d_Tb_digest_154 ?_
                          refine z_lstore_n (L' := [(1, _), (3, _), (0, _)]) d_Tb_digest_155 rfl (by decide) rfl ?_
                          refine z_iinc (v := nI (i + 1)) (L' := [(3, _), (1, _), (0, _)]) 1 d_Tb_digest_156 rfl (nI_1 i) (by decide) rfl ?_
                          refine z_goto 129 d_Tb_digest_159 (by decide) ?_
                          exact ih_129 (i + 1) _ (by omega) (by omega)
                    exact key_129 (c9 + 1) 0 _ (by omega) (by omega)
                  · skip
                    have hi6 : i < ns := Nat.lt_of_not_le fun q => c_101 (nI_le q (by omega))
                    refine z_aload_n 2 d_Tb_digest_104 rfl rfl ?_
                    refine z_lload_n 1 d_Tb_digest_105 rfl rfl ?_
                    refine z_aload_n 2 d_Tb_digest_106 rfl rfl ?_
                    refine z_get zc_Tb 1 (by decide) qF_Tb_16 (by first | exact hT2.tb | exact hT.tb) rfl d_Tb_digest_107 ?_
                    refine z_iload_n 0 d_Tb_digest_110 rfl rfl ?_
                    refine z_callV0 (m_AL_get hs0 hst (hT2.sA hi6) hi6 (if_pos hi6)) ym_AL_get qM_Tb_166 qI_AL_get qV_AL_AL_get zc_AL (hT2.sA hi6).1 d_Tb_digest_111 rfl (Nat.le_of_ble_eq_true rfl) ⟨Nat.zero_le _, Nat.zero_le _⟩ ⟨Nat.le_of_ble_eq_true rfl, Nat.le_of_ble_eq_true rfl⟩ ?_
                    refine z_castS zc_Se qK_Tb_115 (hT2.se hi6).1 d_Tb_digest_114 ?_
                    refine z_callVp0 (m_Tb_digestSecret hs0 hst hT2 hi6 v) ym_Tb_digestSecret qM_Tb_318 qI_Tb_digestSecret qV_Tb_Tb_digestSecret zc_Tb (by first | exact hT2.tb | exact hT.tb) d_Tb_digest_117 rfl (Nat.le_of_ble_eq_true rfl) ⟨Nat.zero_le _, Nat.zero_le _⟩ ⟨Nat.le_of_ble_eq_true rfl, Nat.le_of_ble_eq_true rfl⟩ (fun r_117 G_117 hp_117 => ?_)
                    obtain ⟨⟨v_117, rfl⟩, D3, V3, hT3, hK3, hF3⟩ := hp_117
                    refine z_lstore_n (L' := [(1, _), (3, _), (0, _)]) d_Tb_digest_120 rfl (by decide) rfl ?_
                    refine z_iinc (v := nI (i + 1)) (L' := [(3, _), (1, _), (0, _)]) 1 d_Tb_digest_121 rfl (nI_1 i) (by decide) rfl ?_
                    refine z_goto 93 d_Tb_digest_124 (by decide) ?_
                    exact ih_93 (i + 1) _ _ _ _ (by omega) (by omega) hT3 (hK2.tr hK3) (hF2.tr hF3)
              exact key_93 (ns + 1) 0 _ _ _ _ (by omega) (by omega) hT zKo.rf zFr.rf
            · skip
              have hi6 : i < nk := Nat.lt_of_not_le fun q => c_41 (nI_le q (by omega))
              refine z_iconst (v := (nI 0)) d_Tb_digest_44 (by decide) ?_
              refine z_istore (L' := [(4, _), (3, _), (1, _), (0, _)]) d_Tb_digest_45 (by decide) rfl ?_
              have key_47 : ∀ (n : Nat) (w : Nat) (v : Int64), 7 - w < n → (w ≤ 7) → Z g0 d y_Tb_digest c_Tb_digest 5 ((Option.some Jvm.ClassFile.FieldType.long)) [] p l e (zR 16 0 0) s m args below meth c (vx_MQ below (zQc g0 d (zTu d A nk ns V G zrL)) (zXc g0 d (zNo)) args s 0 0 (zA g0)) 0 0 (G) [(4, .int (nI w)), (3, .int (nI i)), (1, .long v), (0, .ref (A 0))] [] 47 := by
                intro n
                induction n with
                | zero => intro w v h0; exact absurd h0 (Nat.not_lt_zero _)
                | succ n ih_47 =>
                  intro w v hm_47 hw
                  refine z_iload 0 d_Tb_digest_47 rfl ?_
                  refine z_bipush (v := (nI 6)) d_Tb_digest_49 (by decide) ?_
                  refine z_icmp_gt 85 d_Tb_digest_51 (by decide) (fun c_51 => ?_) (fun c_51 => ?_)
                  · skip
                    refine z_iinc (v := nI (i + 1)) (L' := [(3, _), (4, _), (1, _), (0, _)]) 1 d_Tb_digest_85 rfl (nI_1 i) (by decide) rfl ?_
                    refine z_goto 33 d_Tb_digest_88 (by decide) ?_
                    refine z_sub (L' := [(3, _), (1, _), (0, _)]) [0, 2, 3] rfl ?_
                    exact ih_33 (i + 1) _ (by omega) (by omega)
                  · skip
                    have hw6 : w ≤ 6 := Nat.le_of_not_lt fun q => c_51 ((nI_ltI (a := 6) (b := w) (by decide) (by omega)).mpr q)
                    refine z_lload_n 2 d_Tb_digest_54 rfl rfl ?_
                    refine z_ldc2 qXl_Tb_316 d_Tb_digest_55 ?_
                    refine z_lmul d_Tb_digest_58 ?_
                    refine z_aload_n 3 d_Tb_digest_59 rfl rfl ?_
                    refine z_aload_n 3 d_Tb_digest_60 rfl rfl ?_
                    refine z_get zc_Tb 0 (by decide) qF_Tb_10 (by first | exact hT2.tb | exact hT.tb) rfl d_Tb_digest_61 ?_
                    refine z_iload_n 1 d_Tb_digest_64 rfl rfl ?_
                    refine z_callV0 (m_AL_get hs0 hst (hT.kA hi6) hi6 (if_pos hi6)) ym_AL_get qM_Tb_166 qI_AL_get qV_AL_AL_get zc_AL (hT.kA hi6).1 d_Tb_digest_65 rfl (Nat.le_of_ble_eq_true rfl) ⟨Nat.zero_le _, Nat.zero_le _⟩ ⟨Nat.le_of_ble_eq_true rfl, Nat.le_of_ble_eq_true rfl⟩ ?_
                    refine z_castS zc_Ke qK_Tb_77 (hT.ke hi6) d_Tb_digest_68 ?_
                    refine z_iload 0 d_Tb_digest_71 rfl ?_
                    refine z_callVp0 (m_Tb_tellOfKeeper hs0 hst hT hi6 (nI w)) ym_Tb_tellOfKeeper qM_Tb_232 qI_Tb_tellOfKeeper qV_Tb_Tb_tellOfKeeper zc_Tb (by first | exact hT2.tb | exact hT.tb) d_Tb_digest_73 rfl (Nat.le_of_ble_eq_true rfl) ⟨Nat.zero_le _, Nat.zero_le _⟩ ⟨Nat.le_of_ble_eq_true rfl, Nat.le_of_ble_eq_true rfl⟩ (fun r_73 G_73 hp_73 => ?_)
                    obtain ⟨⟨v_73, rfl⟩, rfl⟩ := hp_73
                    refine z_i2l d_Tb_digest_76 rfl ?_
                    refine z_ladd d_Tb_digest_77 ?_
                    refine z_lstore_n (L' := [(1, _), (4, _), (3, _), (0, _)]) d_Tb_digest_78 rfl (by decide) rfl ?_
                    refine z_iinc (v := nI (w + 1)) (L' := [(4, _), (1, _), (3, _), (0, _)]) 1 d_Tb_digest_79 rfl (nI_1 w) (by decide) rfl ?_
                    refine z_goto 47 d_Tb_digest_82 (by decide) ?_
                    refine z_sub (L' := [(4, _), (3, _), (1, _), (0, _)]) [0, 2, 1, 3] rfl ?_
                    exact ih_47 (w + 1) _ (by omega) (by omega)
              exact key_47 8 0 _ (by omega) (by omega)
        exact key_33 (nk + 1) 0 _ (by omega) (by omega)
      · skip
        have hw6 : w ≤ 11 := Nat.le_of_not_lt fun q => c_9 ((nI_ltI (a := 11) (b := w) (by decide) (by omega)).mpr q)
        refine z_lload_n 1 d_Tb_digest_12 rfl rfl ?_
        refine z_ldc2 qXl_Tb_316 d_Tb_digest_13 ?_
        refine z_lmul d_Tb_digest_16 ?_
        refine z_aload_n 2 d_Tb_digest_17 rfl rfl ?_
        refine z_iload_n 0 d_Tb_digest_18 rfl rfl ?_
        refine z_callVp0 (m_Tb_tellOfBank hs0 hst hT (nI w)) ym_Tb_tellOfBank qM_Tb_250 qI_Tb_tellOfBank qV_Tb_Tb_tellOfBank zc_Tb (by first | exact hT2.tb | exact hT.tb) d_Tb_digest_19 rfl (Nat.le_of_ble_eq_true rfl) ⟨Nat.zero_le _, Nat.zero_le _⟩ ⟨Nat.le_of_ble_eq_true rfl, Nat.le_of_ble_eq_true rfl⟩ (fun r_19 G_19 hp_19 => ?_)
        obtain ⟨⟨v_19, rfl⟩, rfl⟩ := hp_19
        refine z_i2l d_Tb_digest_22 rfl ?_
        refine z_ladd d_Tb_digest_23 ?_
        refine z_lstore_n (L' := [(1, _), (3, _), (0, _)]) d_Tb_digest_24 rfl (by decide) rfl ?_
        refine z_iinc (v := nI (w + 1)) (L' := [(3, _), (1, _), (0, _)]) 1 d_Tb_digest_25 rfl (nI_1 w) (by decide) rfl ?_
        refine z_goto 6 d_Tb_digest_28 (by decide) ?_
        exact ih_6 (w + 1) _ (by omega) (by omega)
  exact key_6 13 0 _ (by omega) (by omega)

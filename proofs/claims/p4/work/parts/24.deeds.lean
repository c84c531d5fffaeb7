theorem d_Tb_open_0 : decode c_Tb_open 0 = .ok (.aload_n 0, 1) := by decide +kernel
theorem d_Tb_open_1 : decode c_Tb_open 1 = .ok (.iload_n 1, 1) := by decide +kernel
theorem d_Tb_open_2 : decode c_Tb_open 2 = .ok (.invokevirtual 140, 3) := by decide +kernel
theorem d_Tb_open_5 : decode c_Tb_open 5 = .ok (.astore_n 3, 1) := by decide +kernel
theorem d_Tb_open_6 : decode c_Tb_open 6 = .ok (.aload_n 0, 1) := by decide +kernel
theorem d_Tb_open_7 : decode c_Tb_open 7 = .ok (.iload_n 2, 1) := by decide +kernel
theorem d_Tb_open_8 : decode c_Tb_open 8 = .ok (.invokevirtual 101, 3) := by decide +kernel
theorem d_Tb_open_11 : decode c_Tb_open 11 = .ok (.aload_n 0, 1) := by decide +kernel
theorem d_Tb_open_12 : decode c_Tb_open 12 = .ok (.aload_n 3, 1) := by decide +kernel
theorem d_Tb_open_13 : decode c_Tb_open 13 = .ok (.iload_n 2, 1) := by decide +kernel
theorem d_Tb_open_14 : decode c_Tb_open 14 = .ok (.invokevirtual 184, 3) := by decide +kernel
theorem d_Tb_open_17 : decode c_Tb_open 17 = .ok (.aload_n 0, 1) := by decide +kernel
theorem d_Tb_open_18 : decode c_Tb_open 18 = .ok (.getfield 36, 3) := by decide +kernel
theorem d_Tb_open_21 : decode c_Tb_open 21 = .ok (.invokevirtual 188, 3) := by decide +kernel
theorem d_Tb_open_24 : decode c_Tb_open 24 = .ok (.aload_n 0, 1) := by decide +kernel
theorem d_Tb_open_25 : decode c_Tb_open 25 = .ok (.aload_n 3, 1) := by decide +kernel
theorem d_Tb_open_26 : decode c_Tb_open 26 = .ok (.aload_n 0, 1) := by decide +kernel
theorem d_Tb_open_27 : decode c_Tb_open 27 = .ok (.getfield 36, 3) := by decide +kernel
theorem d_Tb_open_30 : decode c_Tb_open 30 = .ok (.invokevirtual 200, 3) := by decide +kernel
theorem d_Tb_open_33 : decode c_Tb_open 33 = .ok (.invokevirtual 220, 3) := by decide +kernel
theorem d_Tb_open_36 : decode c_Tb_open 36 = .ok (.ifCond .ne 28, 3) := by decide +kernel
theorem d_Tb_open_39 : decode c_Tb_open 39 = .ok (.aload_n 0, 1) := by decide +kernel
theorem d_Tb_open_40 : decode c_Tb_open 40 = .ok (.dup, 1) := by decide +kernel
theorem d_Tb_open_41 : decode c_Tb_open 41 = .ok (.getfield 48, 3) := by decide +kernel
theorem d_Tb_open_44 : decode c_Tb_open 44 = .ok (.iconst 1, 1) := by decide +kernel
theorem d_Tb_open_45 : decode c_Tb_open 45 = .ok (.iadd, 1) := by decide +kernel
theorem d_Tb_open_46 : decode c_Tb_open 46 = .ok (.putfield 48, 3) := by decide +kernel
theorem d_Tb_open_49 : decode c_Tb_open 49 = .ok (.aload_n 0, 1) := by decide +kernel
theorem d_Tb_open_50 : decode c_Tb_open 50 = .ok (.getfield 22, 3) := by decide +kernel
theorem d_Tb_open_53 : decode c_Tb_open 53 = .ok (.iconst 5, 1) := by decide +kernel
theorem d_Tb_open_54 : decode c_Tb_open 54 = .ok (.iload_n 1, 1) := by decide +kernel
theorem d_Tb_open_55 : decode c_Tb_open 55 = .ok (.aload_n 0, 1) := by decide +kernel
theorem d_Tb_open_56 : decode c_Tb_open 56 = .ok (.getfield 44, 3) := by decide +kernel
theorem d_Tb_open_59 : decode c_Tb_open 59 = .ok (.invokevirtual 137, 3) := by decide +kernel
theorem d_Tb_open_62 : decode c_Tb_open 62 = .ok (.iconst (-1), 1) := by decide +kernel
theorem d_Tb_open_63 : decode c_Tb_open 63 = .ok (.ireturn, 1) := by decide +kernel
theorem d_Tb_open_64 : decode c_Tb_open 64 = .ok (.aload_n 0, 1) := by decide +kernel
theorem d_Tb_open_65 : decode c_Tb_open 65 = .ok (.getfield 36, 3) := by decide +kernel
theorem d_Tb_open_68 : decode c_Tb_open 68 = .ok (.invokevirtual 191, 3) := by decide +kernel
theorem d_Tb_open_71 : decode c_Tb_open 71 = .ok (.ifCond .ne 30, 3) := by decide +kernel
theorem d_Tb_open_74 : decode c_Tb_open 74 = .ok (.aload_n 0, 1) := by decide +kernel
theorem d_Tb_open_75 : decode c_Tb_open 75 = .ok (.dup, 1) := by decide +kernel
theorem d_Tb_open_76 : decode c_Tb_open 76 = .ok (.getfield 51, 3) := by decide +kernel
theorem d_Tb_open_79 : decode c_Tb_open 79 = .ok (.iconst 1, 1) := by decide +kernel
theorem d_Tb_open_80 : decode c_Tb_open 80 = .ok (.iadd, 1) := by decide +kernel
theorem d_Tb_open_81 : decode c_Tb_open 81 = .ok (.putfield 51, 3) := by decide +kernel
theorem d_Tb_open_84 : decode c_Tb_open 84 = .ok (.aload_n 0, 1) := by decide +kernel
theorem d_Tb_open_85 : decode c_Tb_open 85 = .ok (.getfield 22, 3) := by decide +kernel
theorem d_Tb_open_88 : decode c_Tb_open 88 = .ok (.bipush 6, 2) := by decide +kernel
theorem d_Tb_open_90 : decode c_Tb_open 90 = .ok (.iload_n 1, 1) := by decide +kernel
theorem d_Tb_open_91 : decode c_Tb_open 91 = .ok (.aload_n 0, 1) := by decide +kernel
theorem d_Tb_open_92 : decode c_Tb_open 92 = .ok (.getfield 44, 3) := by decide +kernel
theorem d_Tb_open_95 : decode c_Tb_open 95 = .ok (.invokevirtual 137, 3) := by decide +kernel
theorem d_Tb_open_98 : decode c_Tb_open 98 = .ok (.bipush (-2), 2) := by decide +kernel
theorem d_Tb_open_100 : decode c_Tb_open 100 = .ok (.ireturn, 1) := by decide +kernel
theorem d_Tb_open_101 : decode c_Tb_open 101 = .ok (.aload_n 0, 1) := by decide +kernel
theorem d_Tb_open_102 : decode c_Tb_open 102 = .ok (.aload_n 0, 1) := by decide +kernel
theorem d_Tb_open_103 : decode c_Tb_open 103 = .ok (.getfield 36, 3) := by decide +kernel
theorem d_Tb_open_106 : decode c_Tb_open 106 = .ok (.invokevirtual 224, 3) := by decide +kernel
theorem d_Tb_open_109 : decode c_Tb_open 109 = .ok (.invokevirtual 227, 3) := by decide +kernel
theorem d_Tb_open_112 : decode c_Tb_open 112 = .ok (.aload_n 0, 1) := by decide +kernel
theorem d_Tb_open_113 : decode c_Tb_open 113 = .ok (.getfield 22, 3) := by decide +kernel
theorem d_Tb_open_116 : decode c_Tb_open 116 = .ok (.iconst 4, 1) := by decide +kernel
theorem d_Tb_open_117 : decode c_Tb_open 117 = .ok (.iload_n 1, 1) := by decide +kernel
theorem d_Tb_open_118 : decode c_Tb_open 118 = .ok (.aload_n 0, 1) := by decide +kernel
theorem d_Tb_open_119 : decode c_Tb_open 119 = .ok (.getfield 44, 3) := by decide +kernel
theorem d_Tb_open_122 : decode c_Tb_open 122 = .ok (.invokevirtual 137, 3) := by decide +kernel
theorem d_Tb_open_125 : decode c_Tb_open 125 = .ok (.aload_n 0, 1) := by decide +kernel
theorem d_Tb_open_126 : decode c_Tb_open 126 = .ok (.getfield 36, 3) := by decide +kernel
theorem d_Tb_open_129 : decode c_Tb_open 129 = .ok (.iconst 0, 1) := by decide +kernel
theorem d_Tb_open_130 : decode c_Tb_open 130 = .ok (.invokevirtual 197, 3) := by decide +kernel
theorem d_Tb_open_133 : decode c_Tb_open 133 = .ok (.ireturn, 1) := by decide +kernel
set_option maxHeartbeats 4000000 in
set_option maxRecDepth 100000 in
theorem m_Tb_open {g0 : State} {d : zD} {l : Launch} {a0 : Array Value} (hs0 : zS0 d a0 g0) (hst : l.stackTraces = false) {G : zG} {A : Nat → Nat} {D : Nat → UInt64} {V : Nat → Nat → Int32} {nk ns : Nat} (hT : zT d A D V nk ns G) (x set : Int32) : zMet g0 d l y_Tb_open c_Tb_open 4 ((Option.some Jvm.ClassFile.FieldType.int)) 13 2 12 [.ref (A 0), .int x, .int set] (G) (zTu d A nk ns V G zrI) (zTx d A nk ns V G ["java/lang/IllegalArgumentException", "java/lang/IndexOutOfBoundsException"]) := by
  have hG_Tb := hT.tb
  have hnk : nk ≤ 8 := hT.2.1
  have hns : ns ≤ 6 := hT.2.2.1
  refine z_entry hs0 hst (by decide) (Nat.le_of_ble_eq_true rfl) (fun p e s m args below meth c => ?_)
  refine z_aload_n 0 d_Tb_open_0 rfl rfl ?_
  refine z_iload_n 1 d_Tb_open_1 rfl rfl ?_
  refine z_callV (m_Tb_secretAt hs0 hst hT x) ym_Tb_secretAt qM_Tb_140 qI_Tb_secretAt qV_Tb_Tb_secretAt zc_Tb hG_Tb d_Tb_open_2 rfl (Nat.le_of_ble_eq_true rfl) ⟨by decide, by decide⟩ ⟨Nat.le_of_ble_eq_true rfl, Nat.le_of_ble_eq_true rfl⟩ ?_ ?_
  · exact fun E G9 hx => by
      obtain ⟨hx1, rfl, hx3⟩ := hx
      obtain rfl : G = G9 := hx3.symm
      exact z_out ⟨by simp, D, V, hT, zKo.rf, zFr.rf⟩ (by decide) (by decide)
  intro r_2 G_2 hp_2
  obtain ⟨si, hsi, rfl, rfl, hg_2⟩ := hp_2
  obtain rfl : G = G_2 := hg_2.symm
  refine z_astore_n (L' := [(3, _), (0, _), (1, _), (2, _)]) d_Tb_open_5 rfl (by decide) rfl ?_
  refine z_aload_n 1 d_Tb_open_6 rfl rfl ?_
  refine z_iload_n 3 d_Tb_open_7 rfl rfl ?_
  refine z_callV (m_Tb_needSet hs0 hst hT set) ym_Tb_needSet qM_Tb_101 qI_Tb_needSet qV_Tb_Tb_needSet zc_Tb hG_Tb d_Tb_open_8 rfl (Nat.le_of_ble_eq_true rfl) ⟨by decide, by decide⟩ ⟨Nat.le_of_ble_eq_true rfl, Nat.le_of_ble_eq_true rfl⟩ ?_ ?_
  · exact fun E G9 hx => by
      obtain ⟨hx1, rfl, hx3⟩ := hx
      obtain rfl : G = G9 := hx3.symm
      exact z_out ⟨by simp, D, V, hT, zKo.rf, zFr.rf⟩ (by decide) (by decide)
  intro r_8 G_8 hp_8
  obtain ⟨hs_8, hr_8, hg_8⟩ := hp_8
  obtain rfl : r_8 = none := hr_8
  obtain rfl : G = G_8 := hg_8.symm
  refine z_aload_n 1 d_Tb_open_11 rfl rfl ?_
  refine z_aload_n 0 d_Tb_open_12 rfl rfl ?_
  refine z_iload_n 3 d_Tb_open_13 rfl rfl ?_
  refine z_callVp0 (m_Tb_gatherGroup hs0 hst hT hsi set) ym_Tb_gatherGroup qM_Tb_184 qI_Tb_gatherGroup qV_Tb_Tb_gatherGroup zc_Tb hG_Tb d_Tb_open_14 rfl (Nat.le_of_ble_eq_true rfl) ⟨by decide, by decide⟩ ⟨Nat.le_of_ble_eq_true rfl, Nat.le_of_ble_eq_true rfl⟩ (fun r_14 G_14 hp_14 => ?_)
  obtain ⟨hr_14, D3, V3, hT3, hK3, hF3⟩ := hp_14
  obtain rfl : r_14 = none := hr_14
  obtain ⟨q9, hq9, hg9⟩ := hT3.dec
  refine z_aload_n 1 d_Tb_open_17 rfl rfl ?_
  refine z_get zc_Tb 4 (by decide) qF_Tb_36 hT3.tb rfl d_Tb_open_18 ?_
  refine z_callVp0 (m_Gr_decode hs0 hst hg9 hq9) ym_Gr_decode qM_Tb_188 qI_Gr_decode qV_Gr_Gr_decode zc_Gr hT3.gr d_Tb_open_21 rfl (Nat.le_of_ble_eq_true rfl) ⟨by decide, by decide⟩ ⟨Nat.le_of_ble_eq_true rfl, Nat.le_of_ble_eq_true rfl⟩ (fun r_21 G_21 hp_21 => ?_)
  obtain ⟨hr_21, hg_21⟩ := hp_21
  obtain rfl : r_21 = none := hr_21
  obtain ⟨V4, hT4, hK4, hF4⟩ := hT3.putg (V3 12 0) _ _ (p := nI q9) ⟨q9, hq9, rfl⟩
  rw [← hg_21] at hT4 hF4
  refine z_aload_n 1 d_Tb_open_24 rfl rfl ?_
  refine z_aload_n 0 d_Tb_open_25 rfl rfl ?_
  refine z_aload_n 1 d_Tb_open_26 rfl rfl ?_
  refine z_get zc_Tb 4 (by decide) qF_Tb_36 hT4.tb rfl d_Tb_open_27 ?_
  refine z_callV0 (m_Gr_members hs0 hst hT4.gA) ym_Gr_members qM_Tb_200 qI_Gr_members qV_Gr_Gr_members zc_Gr hT4.gr d_Tb_open_30 rfl (Nat.le_of_ble_eq_true rfl) ⟨by decide, by decide⟩ ⟨Nat.le_of_ble_eq_true rfl, Nat.le_of_ble_eq_true rfl⟩ ?_
  refine z_callVp0 (m_Tb_isLawful hs0 hst hT4 (hT4.se hsi) _) ym_Tb_isLawful qM_Tb_220 qI_Tb_isLawful qV_Tb_Tb_isLawful zc_Tb hT4.tb d_Tb_open_33 rfl (Nat.le_of_ble_eq_true rfl) ⟨by decide, by decide⟩ ⟨Nat.le_of_ble_eq_true rfl, Nat.le_of_ble_eq_true rfl⟩ (fun r_33 G_33 hp_33 => ?_)
  obtain ⟨⟨v_33, rfl⟩, rfl⟩ := hp_33
  refine z_if_ne 64 d_Tb_open_36 (by decide) (fun c_36 => ?_) (fun c_36 => ?_)
  · skip
    refine z_aload_n 1 d_Tb_open_64 rfl rfl ?_
    refine z_get zc_Tb 4 (by decide) qF_Tb_36 hT4.tb rfl d_Tb_open_65 ?_
    refine z_callV0 (m_Gr_isGood hs0 hst hT4.gA) ym_Gr_isGood qM_Tb_191 qI_Gr_isGood qV_Gr_Gr_isGood zc_Gr hT4.gr d_Tb_open_68 rfl (Nat.le_of_ble_eq_true rfl) ⟨by decide, by decide⟩ ⟨Nat.le_of_ble_eq_true rfl, Nat.le_of_ble_eq_true rfl⟩ ?_
    refine z_if_ne 101 d_Tb_open_71 (by decide) (fun c_71 => ?_) (fun c_71 => ?_)
    · skip
      refine z_aload_n 1 d_Tb_open_101 rfl rfl ?_
      refine z_aload_n 1 d_Tb_open_102 rfl rfl ?_
      refine z_get zc_Tb 4 (by decide) qF_Tb_36 hT4.tb rfl d_Tb_open_103 ?_
      refine z_callV0 (m_Gr_liars hs0 hst hT4.gA) ym_Gr_liars qM_Tb_224 qI_Gr_liars qV_Gr_Gr_liars zc_Gr hT4.gr d_Tb_open_106 rfl (Nat.le_of_ble_eq_true rfl) ⟨by decide, by decide⟩ ⟨Nat.le_of_ble_eq_true rfl, Nat.le_of_ble_eq_true rfl⟩ ?_
      refine z_callVp0 (m_Tb_noteAll hs0 hst hT4 _) ym_Tb_noteAll qM_Tb_227 qI_Tb_noteAll qV_Tb_Tb_noteAll zc_Tb hT4.tb d_Tb_open_109 rfl (Nat.le_of_ble_eq_true rfl) ⟨by decide, by decide⟩ ⟨Nat.le_of_ble_eq_true rfl, Nat.le_of_ble_eq_true rfl⟩ (fun r_109 G_109 hp_109 => ?_)
      obtain ⟨hr_109, D5, V5, hT5, hK5, hF5⟩ := hp_109
      obtain rfl : r_109 = none := hr_109
      refine z_aload_n 1 d_Tb_open_112 rfl rfl ?_
      refine z_get zc_Tb 2 (by decide) qF_Tb_22 hT5.tb rfl d_Tb_open_113 ?_
      refine z_iconst (v := 4) d_Tb_open_116 (by decide) ?_
      refine z_iload_n 2 d_Tb_open_117 rfl rfl ?_
      refine z_aload_n 1 d_Tb_open_118 rfl rfl ?_
      refine z_get zc_Tb 6 (by decide) qF_Tb_44 hT5.tb rfl d_Tb_open_119 ?_
      refine z_callVp0 (m_Re_enterT hs0 hst hT5 _ _ _) ym_Re_enter qM_Tb_137 qI_Re_enter qV_Re_Re_enter zc_Re hT5.re d_Tb_open_122 rfl (Nat.le_of_ble_eq_true rfl) ⟨by decide, by decide⟩ ⟨Nat.le_of_ble_eq_true rfl, Nat.le_of_ble_eq_true rfl⟩ (fun r_122 G_122 hp_122 => ?_)
      obtain ⟨hr_122, D6, V6, hT6, hK6, hF6⟩ := hp_122
      obtain rfl : r_122 = none := hr_122
      refine z_aload_n 1 d_Tb_open_125 rfl rfl ?_
      refine z_get zc_Tb 4 (by decide) qF_Tb_36 hT6.tb rfl d_Tb_open_126 ?_
      refine z_iconst (v := 0) d_Tb_open_129 (by decide) ?_
      refine z_callV0 (m_Gr_curveAt hs0 hst hT6.gA _) ym_Gr_curveAt qM_Tb_197 qI_Gr_curveAt qV_Gr_Gr_curveAt zc_Gr hT6.gr d_Tb_open_130 rfl (Nat.le_of_ble_eq_true rfl) ⟨by decide, by decide⟩ ⟨Nat.le_of_ble_eq_true rfl, Nat.le_of_ble_eq_true rfl⟩ ?_
      exact z_iret rfl (⟨⟨_, rfl⟩, _, _, hT6, ((hK3.tr hK4).tr hK5).tr hK6, ((hF3.tr hF4).tr hF5).tr hF6⟩) (by first | decide | omega) (by first | decide | omega) d_Tb_open_133
    · skip
      refine z_aload_n 1 d_Tb_open_74 rfl rfl ?_
      refine z_dup d_Tb_open_75 rfl ?_
      refine z_get zc_Tb 8 (by decide) qF_Tb_51 hT4.tb rfl d_Tb_open_76 ?_
      refine z_iconst (v := 1) d_Tb_open_79 (by decide) ?_
      refine z_iadd d_Tb_open_80 ?_
      refine z_put zc_Tb 8 (by decide) qF_Tb_51 hT4.tb rfl rfl rfl (Nat.le_of_ble_eq_true rfl) d_Tb_open_81 ?_
      obtain ⟨V5, hT5, hK5, hF5⟩ := hT4.put0k (V4 0 1) (V4 0 2 + 1) (V4 0 3)
      refine z_aload_n 1 d_Tb_open_84 rfl rfl ?_
      refine z_get zc_Tb 2 (by decide) qF_Tb_22 hT5.tb rfl d_Tb_open_85 ?_
      refine z_bipush (v := 6) d_Tb_open_88 (by decide) ?_
      refine z_iload_n 2 d_Tb_open_90 rfl rfl ?_
      refine z_aload_n 1 d_Tb_open_91 rfl rfl ?_
      refine z_get zc_Tb 6 (by decide) qF_Tb_44 hT5.tb rfl d_Tb_open_92 ?_
      refine z_callVp0 (m_Re_enterT hs0 hst hT5 _ _ _) ym_Re_enter qM_Tb_137 qI_Re_enter qV_Re_Re_enter zc_Re hT5.re d_Tb_open_95 rfl (Nat.le_of_ble_eq_true rfl) ⟨by decide, by decide⟩ ⟨Nat.le_of_ble_eq_true rfl, Nat.le_of_ble_eq_true rfl⟩ (fun r_95 G_95 hp_95 => ?_)
      obtain ⟨hr_95, D6, V6, hT6, hK6, hF6⟩ := hp_95
      obtain rfl : r_95 = none := hr_95
      refine z_bipush (v := (-2)) d_Tb_open_98 (by decide) ?_
      exact z_iret rfl (⟨⟨_, rfl⟩, _, _, hT6, ((hK3.tr hK4).tr hK5).tr hK6, ((hF3.tr hF4).tr hF5).tr hF6⟩) (by first | decide | omega) (by first | decide | omega) d_Tb_open_100
  · skip
    refine z_aload_n 1 d_Tb_open_39 rfl rfl ?_
    refine z_dup d_Tb_open_40 rfl ?_
    refine z_get zc_Tb 7 (by decide) qF_Tb_48 hT4.tb rfl d_Tb_open_41 ?_
    refine z_iconst (v := 1) d_Tb_open_44 (by decide) ?_
    refine z_iadd d_Tb_open_45 ?_
    refine z_put zc_Tb 7 (by decide) qF_Tb_48 hT4.tb rfl rfl rfl (Nat.le_of_ble_eq_true rfl) d_Tb_open_46 ?_
    obtain ⟨V5, hT5, hK5, hF5⟩ := hT4.put0k (V4 0 1 + 1) (V4 0 2) (V4 0 3)
    refine z_aload_n 1 d_Tb_open_49 rfl rfl ?_
    refine z_get zc_Tb 2 (by decide) qF_Tb_22 hT5.tb rfl d_Tb_open_50 ?_
    refine z_iconst (v := 5) d_Tb_open_53 (by decide) ?_
    refine z_iload_n 2 d_Tb_open_54 rfl rfl ?_
    refine z_aload_n 1 d_Tb_open_55 rfl rfl ?_
    refine z_get zc_Tb 6 (by decide) qF_Tb_44 hT5.tb rfl d_Tb_open_56 ?_
    refine z_callVp0 (m_Re_enterT hs0 hst hT5 _ _ _) ym_Re_enter qM_Tb_137 qI_Re_enter qV_Re_Re_enter zc_Re hT5.re d_Tb_open_59 rfl (Nat.le_of_ble_eq_true rfl) ⟨by decide, by decide⟩ ⟨Nat.le_of_ble_eq_true rfl, Nat.le_of_ble_eq_true rfl⟩ (fun r_59 G_59 hp_59 => ?_)
    obtain ⟨hr_59, D6, V6, hT6, hK6, hF6⟩ := hp_59
    obtain rfl : r_59 = none := hr_59
    refine z_iconst (v := (-1)) d_Tb_open_62 (by decide) ?_
    exact z_iret rfl (⟨⟨_, rfl⟩, _, _, hT6, ((hK3.tr hK4).tr hK5).tr hK6, ((hF3.tr hF4).tr hF5).tr hF6⟩) (by first | decide | omega) (by first | decide | omega) d_Tb_open_63
theorem d_Tb_flood_0 : decode c_Tb_flood 0 = .ok (.iload_n 1, 1) := by decide +kernel
theorem d_Tb_flood_1 : decode c_Tb_flood 1 = .ok (.iconst 0, 1) := by decide +kernel
theorem d_Tb_flood_2 : decode c_Tb_flood 2 = .ok (.iconst 3, 1) := by decide +kernel
theorem d_Tb_flood_3 : decode c_Tb_flood 3 = .ok (.invokestatic 57, 3) := by decide +kernel
theorem d_Tb_flood_6 : decode c_Tb_flood 6 = .ok (.ifCond .ne 13, 3) := by decide +kernel
theorem d_Tb_flood_9 : decode c_Tb_flood 9 = .ok (.new 161, 3) := by decide +kernel
theorem d_Tb_flood_12 : decode c_Tb_flood 12 = .ok (.dup, 1) := by decide +kernel
theorem d_Tb_flood_13 : decode c_Tb_flood 13 = .ok (.ldc 163, 2) := by decide +kernel
theorem d_Tb_flood_15 : decode c_Tb_flood 15 = .ok (.invokespecial 165, 3) := by decide +kernel
theorem d_Tb_flood_18 : decode c_Tb_flood 18 = .ok (.athrow, 1) := by decide +kernel
theorem d_Tb_flood_19 : decode c_Tb_flood 19 = .ok (.iconst 0, 1) := by decide +kernel
theorem d_Tb_flood_20 : decode c_Tb_flood 20 = .ok (.istore_n 2, 1) := by decide +kernel
theorem d_Tb_flood_21 : decode c_Tb_flood 21 = .ok (.iconst 0, 1) := by decide +kernel
theorem d_Tb_flood_22 : decode c_Tb_flood 22 = .ok (.istore_n 3, 1) := by decide +kernel
theorem d_Tb_flood_23 : decode c_Tb_flood 23 = .ok (.iload_n 3, 1) := by decide +kernel
theorem d_Tb_flood_24 : decode c_Tb_flood 24 = .ok (.aload_n 0, 1) := by decide +kernel
theorem d_Tb_flood_25 : decode c_Tb_flood 25 = .ok (.getfield 10, 3) := by decide +kernel
theorem d_Tb_flood_28 : decode c_Tb_flood 28 = .ok (.invokevirtual 68, 3) := by decide +kernel
theorem d_Tb_flood_31 : decode c_Tb_flood 31 = .ok (.if_icmp .ge 40, 3) := by decide +kernel
theorem d_Tb_flood_34 : decode c_Tb_flood 34 = .ok (.aload_n 0, 1) := by decide +kernel
theorem d_Tb_flood_35 : decode c_Tb_flood 35 = .ok (.getfield 10, 3) := by decide +kernel
theorem d_Tb_flood_38 : decode c_Tb_flood 38 = .ok (.iload_n 3, 1) := by decide +kernel
theorem d_Tb_flood_39 : decode c_Tb_flood 39 = .ok (.invokevirtual 166, 3) := by decide +kernel
theorem d_Tb_flood_42 : decode c_Tb_flood 42 = .ok (.checkcast 77, 3) := by decide +kernel
theorem d_Tb_flood_45 : decode c_Tb_flood 45 = .ok (.getfield 170, 3) := by decide +kernel
theorem d_Tb_flood_48 : decode c_Tb_flood 48 = .ok (.iload_n 1, 1) := by decide +kernel
theorem d_Tb_flood_49 : decode c_Tb_flood 49 = .ok (.if_icmp .ne 16, 3) := by decide +kernel
theorem d_Tb_flood_52 : decode c_Tb_flood 52 = .ok (.iload_n 2, 1) := by decide +kernel
theorem d_Tb_flood_53 : decode c_Tb_flood 53 = .ok (.aload_n 0, 1) := by decide +kernel
theorem d_Tb_flood_54 : decode c_Tb_flood 54 = .ok (.iload_n 3, 1) := by decide +kernel
theorem d_Tb_flood_55 : decode c_Tb_flood 55 = .ok (.invokevirtual 173, 3) := by decide +kernel
theorem d_Tb_flood_58 : decode c_Tb_flood 58 = .ok (.iadd, 1) := by decide +kernel
theorem d_Tb_flood_59 : decode c_Tb_flood 59 = .ok (.istore_n 2, 1) := by decide +kernel
theorem d_Tb_flood_60 : decode c_Tb_flood 60 = .ok (.aload_n 0, 1) := by decide +kernel
theorem d_Tb_flood_61 : decode c_Tb_flood 61 = .ok (.iload_n 3, 1) := by decide +kernel
theorem d_Tb_flood_62 : decode c_Tb_flood 62 = .ok (.invokevirtual 176, 3) := by decide +kernel
theorem d_Tb_flood_65 : decode c_Tb_flood 65 = .ok (.iinc 3 1, 3) := by decide +kernel
theorem d_Tb_flood_68 : decode c_Tb_flood 68 = .ok (.goto (-45), 3) := by decide +kernel
theorem d_Tb_flood_71 : decode c_Tb_flood 71 = .ok (.aload_n 0, 1) := by decide +kernel
theorem d_Tb_flood_72 : decode c_Tb_flood 72 = .ok (.getfield 22, 3) := by decide +kernel
theorem d_Tb_flood_75 : decode c_Tb_flood 75 = .ok (.iconst 2, 1) := by decide +kernel
theorem d_Tb_flood_76 : decode c_Tb_flood 76 = .ok (.iload_n 1, 1) := by decide +kernel
theorem d_Tb_flood_77 : decode c_Tb_flood 77 = .ok (.aload_n 0, 1) := by decide +kernel
theorem d_Tb_flood_78 : decode c_Tb_flood 78 = .ok (.getfield 44, 3) := by decide +kernel
theorem d_Tb_flood_81 : decode c_Tb_flood 81 = .ok (.invokevirtual 137, 3) := by decide +kernel
theorem d_Tb_flood_84 : decode c_Tb_flood 84 = .ok (.iload_n 2, 1) := by decide +kernel
theorem d_Tb_flood_85 : decode c_Tb_flood 85 = .ok (.ireturn, 1) := by decide +kernel
set_option maxHeartbeats 4000000 in
set_option maxRecDepth 100000 in
theorem m_Tb_flood {g0 : State} {d : zD} {l : Launch} {a0 : Array Value} (hs0 : zS0 d a0 g0) (hst : l.stackTraces = false) {G : zG} {A : Nat → Nat} {D : Nat → UInt64} {V : Nat → Nat → Int32} {nk ns : Nat} (hT : zT d A D V nk ns G) (x : Int32) : zMet g0 d l y_Tb_flood c_Tb_flood 4 ((Option.some Jvm.ClassFile.FieldType.int)) 12 1 6 [.ref (A 0), .int x] (G) (zTu d A nk ns V G zrI) (zTx d A nk ns V G ["java/lang/IndexOutOfBoundsException"]) := by
  have hG_Tb := hT.tb
  have hnk : nk ≤ 8 := hT.2.1
  have hns : ns ≤ 6 := hT.2.2.1
  refine z_entry hs0 hst (by decide) (Nat.le_of_ble_eq_true rfl) (fun p e s m args below meth c => ?_)
  refine z_iload_n 1 d_Tb_flood_0 rfl rfl ?_
  refine z_iconst (v := 0) d_Tb_flood_1 (by decide) ?_
  refine z_iconst (v := 3) d_Tb_flood_2 (by decide) ?_
  refine z_callS0 (m_Tb_isFrom hs0 hst x 0 _) ym_Tb_isFrom qM_Tb_57 qS_Tb_isFrom d_Tb_flood_3 rfl (Nat.le_of_ble_eq_true rfl) ⟨by decide, by decide⟩ ⟨Nat.le_of_ble_eq_true rfl, Nat.le_of_ble_eq_true rfl⟩ ?_
  refine z_if_ne 19 d_Tb_flood_6 (by decide) (fun c_6 => ?_) (fun c_6 => ?_)
  · skip
    refine z_iconst (v := 0) d_Tb_flood_19 (by decide) ?_
    refine z_istore_n (L' := [(2, _), (0, _), (1, _)]) d_Tb_flood_20 rfl (by decide) rfl ?_
    refine z_iconst (v := (nI 0)) d_Tb_flood_21 (by decide) ?_
    refine z_istore_n (L' := [(3, _), (2, _), (0, _), (1, _)]) d_Tb_flood_22 rfl (by decide) rfl ?_
    have key_23 : ∀ (n : Nat) (i : Nat) (G2 : zG) (D2 : Nat → UInt64) (V2 : Nat → Nat → Int32) (v : Int32), nk - i < n → (i ≤ nk) → (zT d A D2 V2 nk ns G2) → (zKo V V2) → (tFr A nk ns G G2) → Z g0 d y_Tb_flood c_Tb_flood 4 ((Option.some Jvm.ClassFile.FieldType.int)) [] p l e (zR 12 1 6) s m args below meth c (vx_MQ below (zQc g0 d (zTu d A nk ns V G zrI)) (zXc g0 d (zTx d A nk ns V G ["java/lang/IndexOutOfBoundsException"])) args s 1 6 (zA g0)) 0 0 (G2) [(3, .int (nI i)), (2, .int v), (0, .ref (A 0)), (1, .int x)] [] 23 := by
      intro n
      induction n with
      | zero => intro i G2 D2 V2 v h0; exact absurd h0 (Nat.not_lt_zero _)
      | succ n ih_23 =>
        intro i G2 D2 V2 v hm_23 hi hT2 hK2 hF2
        refine z_iload_n 0 d_Tb_flood_23 rfl rfl ?_
        refine z_aload_n 2 d_Tb_flood_24 rfl rfl ?_
        refine z_get zc_Tb 0 (by decide) qF_Tb_10 hT2.tb rfl d_Tb_flood_25 ?_
        refine z_callV0 (m_AL_size hs0 hst hT2.kl) ym_AL_size qM_Tb_68 qI_AL_size qV_AL_AL_size zc_AL hT2.kl d_Tb_flood_28 rfl (Nat.le_of_ble_eq_true rfl) ⟨by decide, by decide⟩ ⟨Nat.le_of_ble_eq_true rfl, Nat.le_of_ble_eq_true rfl⟩ ?_
        refine z_icmp_ge 71 d_Tb_flood_31 (by decide) (fun c_31 => ?_) (fun c_31 => ?_)
        · skip
          refine z_aload_n 2 d_Tb_flood_71 rfl rfl ?_
          refine z_get zc_Tb 2 (by decide) qF_Tb_22 hT2.tb rfl d_Tb_flood_72 ?_
          refine z_iconst (v := 2) d_Tb_flood_75 (by decide) ?_
          refine z_iload_n 3 d_Tb_flood_76 rfl rfl ?_
          refine z_aload_n 2 d_Tb_flood_77 rfl rfl ?_
          refine z_get zc_Tb 6 (by decide) qF_Tb_44 hT2.tb rfl d_Tb_flood_78 ?_
          refine z_callVp0 (m_Re_enterT hs0 hst hT2 _ _ _) ym_Re_enter qM_Tb_137 qI_Re_enter qV_Re_Re_enter zc_Re hT2.re d_Tb_flood_81 rfl (Nat.le_of_ble_eq_true rfl) ⟨by decide, by decide⟩ ⟨Nat.le_of_ble_eq_true rfl, Nat.le_of_ble_eq_true rfl⟩ (fun r_81 G_81 hp_81 => ?_)
          obtain ⟨hr_81, D3, V3, hT3, hK3, hF3⟩ := hp_81
          obtain rfl : r_81 = none := hr_81
          refine z_iload_n 1 d_Tb_flood_84 rfl rfl ?_
          exact z_iret rfl (⟨⟨_, rfl⟩, _, _, hT3, hK2.tr hK3, hF2.tr hF3⟩) (by first | decide | omega) (by first | decide | omega) d_Tb_flood_85
        · skip
          have hi6 : i < nk := Nat.lt_of_not_le fun q => c_31 (nI_le q (by omega))
          refine z_aload_n 2 d_Tb_flood_34 rfl rfl ?_
          refine z_get zc_Tb 0 (by decide) qF_Tb_10 hT2.tb rfl d_Tb_flood_35 ?_
          refine z_iload_n 0 d_Tb_flood_38 rfl rfl ?_
          refine z_callV0 (m_AL_get hs0 hst (hT2.kA hi6) hi6 (if_pos hi6)) ym_AL_get qM_Tb_166 qI_AL_get qV_AL_AL_get zc_AL (hT2.kA hi6).1 d_Tb_flood_39 rfl (Nat.le_of_ble_eq_true rfl) ⟨by decide, by decide⟩ ⟨Nat.le_of_ble_eq_true rfl, Nat.le_of_ble_eq_true rfl⟩ ?_
          refine z_castS zc_Ke qK_Tb_77 (hT2.ke hi6) d_Tb_flood_42 ?_
          refine z_get zc_Ke 1 (by decide) qF_Tb_170 (hT2.ke hi6) rfl d_Tb_flood_45 ?_
          refine z_iload_n 3 d_Tb_flood_48 rfl rfl ?_
          refine z_icmp_ne 65 d_Tb_flood_49 (by decide) (fun c_49 => ?_) (fun c_49 => ?_)
          · skip
            refine z_iinc (v := nI (i + 1)) (L' := [(3, _), (2, _), (0, _), (1, _)]) 0 d_Tb_flood_65 rfl (nI_1 i) (by decide) rfl ?_
            refine z_goto 23 d_Tb_flood_68 (by decide) ?_
            exact ih_23 (i + 1) _ _ _ _ (by omega) (by omega) (by first | exact hT3 | exact hT2) (by first | exact hK2.tr hK3 | exact hK2) (by first | exact hF2.tr hF3 | exact hF2)
          · skip
            refine z_iload_n 1 d_Tb_flood_52 rfl rfl ?_
            refine z_aload_n 2 d_Tb_flood_53 rfl rfl ?_
            refine z_iload_n 0 d_Tb_flood_54 rfl rfl ?_
            refine z_callV0 (m_Tb_sharesOf hs0 hst hT2 (show i < 8 by omega)) ym_Tb_sharesOf qM_Tb_173 qI_Tb_sharesOf qV_Tb_Tb_sharesOf zc_Tb hT2.tb d_Tb_flood_55 rfl (Nat.le_of_ble_eq_true rfl) ⟨by decide, by decide⟩ ⟨Nat.le_of_ble_eq_true rfl, Nat.le_of_ble_eq_true rfl⟩ ?_
            refine z_iadd d_Tb_flood_58 ?_
            refine z_istore_n (L' := [(2, _), (3, _), (0, _), (1, _)]) d_Tb_flood_59 rfl (by decide) rfl ?_
            refine z_aload_n 2 d_Tb_flood_60 rfl rfl ?_
            refine z_iload_n 1 d_Tb_flood_61 rfl rfl ?_
            refine z_callVp0 (m_Tb_loseShares hs0 hst hT2 (show i < 8 by omega)) ym_Tb_loseShares qM_Tb_176 qI_Tb_loseShares qV_Tb_Tb_loseShares zc_Tb hT2.tb d_Tb_flood_62 rfl (Nat.le_of_ble_eq_true rfl) ⟨by decide, by decide⟩ ⟨Nat.le_of_ble_eq_true rfl, Nat.le_of_ble_eq_true rfl⟩ (fun r_62 G_62 hp_62 => ?_)
            obtain ⟨hr_62, D3, V3, hT3, hK3, hF3⟩ := hp_62
            obtain rfl : r_62 = none := hr_62
            refine z_iinc (v := nI (i + 1)) (L' := [(3, _), (2, _), (0, _), (1, _)]) 1 d_Tb_flood_65 rfl (nI_1 i) (by decide) rfl ?_
            refine z_goto 23 d_Tb_flood_68 (by decide) ?_
            exact ih_23 (i + 1) _ _ _ _ (by omega) (by omega) (by first | exact hT3 | exact hT2) (by first | exact hK2.tr hK3 | exact hK2) (by first | exact hF2.tr hF3 | exact hF2)
    exact key_23 (nk + 1) 0 _ _ _ _ (by omega) (by omega) hT zKo.rf zFr.rf
  · skip
    exact z_thS (names := ["java/lang/RuntimeException", "java/lang/Exception"]) (by decide) (by decide) qK_Tb_161 qN_IOE qR_Tb_163 th_165.1 th_165.2 d_Tb_flood_9 d_Tb_flood_12 d_Tb_flood_13 d_Tb_flood_15 d_Tb_flood_18 (by decide) (Nat.le_of_ble_eq_true rfl) ⟨by decide, by decide⟩ (⟨by simp, D, V, hT, zKo.rf, zFr.rf⟩) (by decide) (by decide)
theorem d_Tb_rebuild_0 : decode c_Tb_rebuild 0 = .ok (.aload_n 0, 1) := by decide +kernel
theorem d_Tb_rebuild_1 : decode c_Tb_rebuild 1 = .ok (.iload_n 1, 1) := by decide +kernel
theorem d_Tb_rebuild_2 : decode c_Tb_rebuild 2 = .ok (.invokevirtual 140, 3) := by decide +kernel
theorem d_Tb_rebuild_5 : decode c_Tb_rebuild 5 = .ok (.astore 4, 2) := by decide +kernel
theorem d_Tb_rebuild_7 : decode c_Tb_rebuild 7 = .ok (.aload_n 0, 1) := by decide +kernel
theorem d_Tb_rebuild_8 : decode c_Tb_rebuild 8 = .ok (.iload_n 2, 1) := by decide +kernel
theorem d_Tb_rebuild_9 : decode c_Tb_rebuild 9 = .ok (.invokevirtual 86, 3) := by decide +kernel
theorem d_Tb_rebuild_12 : decode c_Tb_rebuild 12 = .ok (.pop, 1) := by decide +kernel
theorem d_Tb_rebuild_13 : decode c_Tb_rebuild 13 = .ok (.aload_n 0, 1) := by decide +kernel
theorem d_Tb_rebuild_14 : decode c_Tb_rebuild 14 = .ok (.iload_n 3, 1) := by decide +kernel
theorem d_Tb_rebuild_15 : decode c_Tb_rebuild 15 = .ok (.invokevirtual 101, 3) := by decide +kernel
theorem d_Tb_rebuild_18 : decode c_Tb_rebuild 18 = .ok (.aload 4, 2) := by decide +kernel
theorem d_Tb_rebuild_20 : decode c_Tb_rebuild 20 = .ok (.iload_n 2, 1) := by decide +kernel
theorem d_Tb_rebuild_21 : decode c_Tb_rebuild 21 = .ok (.invokevirtual 179, 3) := by decide +kernel
theorem d_Tb_rebuild_24 : decode c_Tb_rebuild 24 = .ok (.ifCond .eq 13, 3) := by decide +kernel
theorem d_Tb_rebuild_27 : decode c_Tb_rebuild 27 = .ok (.new 72, 3) := by decide +kernel
theorem d_Tb_rebuild_30 : decode c_Tb_rebuild 30 = .ok (.dup, 1) := by decide +kernel
theorem d_Tb_rebuild_31 : decode c_Tb_rebuild 31 = .ok (.ldc 182, 2) := by decide +kernel
theorem d_Tb_rebuild_33 : decode c_Tb_rebuild 33 = .ok (.invokespecial 76, 3) := by decide +kernel
theorem d_Tb_rebuild_36 : decode c_Tb_rebuild 36 = .ok (.athrow, 1) := by decide +kernel
theorem d_Tb_rebuild_37 : decode c_Tb_rebuild 37 = .ok (.aload_n 0, 1) := by decide +kernel
theorem d_Tb_rebuild_38 : decode c_Tb_rebuild 38 = .ok (.aload 4, 2) := by decide +kernel
theorem d_Tb_rebuild_40 : decode c_Tb_rebuild 40 = .ok (.iload_n 3, 1) := by decide +kernel
theorem d_Tb_rebuild_41 : decode c_Tb_rebuild 41 = .ok (.invokevirtual 184, 3) := by decide +kernel
theorem d_Tb_rebuild_44 : decode c_Tb_rebuild 44 = .ok (.aload_n 0, 1) := by decide +kernel
theorem d_Tb_rebuild_45 : decode c_Tb_rebuild 45 = .ok (.getfield 36, 3) := by decide +kernel
theorem d_Tb_rebuild_48 : decode c_Tb_rebuild 48 = .ok (.invokevirtual 188, 3) := by decide +kernel
theorem d_Tb_rebuild_51 : decode c_Tb_rebuild 51 = .ok (.aload_n 0, 1) := by decide +kernel
theorem d_Tb_rebuild_52 : decode c_Tb_rebuild 52 = .ok (.getfield 36, 3) := by decide +kernel
theorem d_Tb_rebuild_55 : decode c_Tb_rebuild 55 = .ok (.invokevirtual 191, 3) := by decide +kernel
theorem d_Tb_rebuild_58 : decode c_Tb_rebuild 58 = .ok (.ifCond .ne 13, 3) := by decide +kernel
theorem d_Tb_rebuild_61 : decode c_Tb_rebuild 61 = .ok (.new 72, 3) := by decide +kernel
theorem d_Tb_rebuild_64 : decode c_Tb_rebuild 64 = .ok (.dup, 1) := by decide +kernel
theorem d_Tb_rebuild_65 : decode c_Tb_rebuild 65 = .ok (.ldc 195, 2) := by decide +kernel
theorem d_Tb_rebuild_67 : decode c_Tb_rebuild 67 = .ok (.invokespecial 76, 3) := by decide +kernel
theorem d_Tb_rebuild_70 : decode c_Tb_rebuild 70 = .ok (.athrow, 1) := by decide +kernel
theorem d_Tb_rebuild_71 : decode c_Tb_rebuild 71 = .ok (.aload 4, 2) := by decide +kernel
theorem d_Tb_rebuild_73 : decode c_Tb_rebuild 73 = .ok (.iload_n 2, 1) := by decide +kernel
theorem d_Tb_rebuild_74 : decode c_Tb_rebuild 74 = .ok (.aload_n 0, 1) := by decide +kernel
theorem d_Tb_rebuild_75 : decode c_Tb_rebuild 75 = .ok (.getfield 36, 3) := by decide +kernel
theorem d_Tb_rebuild_78 : decode c_Tb_rebuild 78 = .ok (.iload_n 2, 1) := by decide +kernel
theorem d_Tb_rebuild_79 : decode c_Tb_rebuild 79 = .ok (.invokestatic 128, 3) := by decide +kernel
theorem d_Tb_rebuild_82 : decode c_Tb_rebuild 82 = .ok (.invokevirtual 197, 3) := by decide +kernel
theorem d_Tb_rebuild_85 : decode c_Tb_rebuild 85 = .ok (.invokevirtual 134, 3) := by decide +kernel
theorem d_Tb_rebuild_88 : decode c_Tb_rebuild 88 = .ok (.aload_n 0, 1) := by decide +kernel
theorem d_Tb_rebuild_89 : decode c_Tb_rebuild 89 = .ok (.aload_n 0, 1) := by decide +kernel
theorem d_Tb_rebuild_90 : decode c_Tb_rebuild 90 = .ok (.getfield 36, 3) := by decide +kernel
theorem d_Tb_rebuild_93 : decode c_Tb_rebuild 93 = .ok (.invokevirtual 200, 3) := by decide +kernel
theorem d_Tb_rebuild_96 : decode c_Tb_rebuild 96 = .ok (.invokevirtual 203, 3) := by decide +kernel
theorem d_Tb_rebuild_99 : decode c_Tb_rebuild 99 = .ok (.ifCond .eq 9, 3) := by decide +kernel
theorem d_Tb_rebuild_102 : decode c_Tb_rebuild 102 = .ok (.aload 4, 2) := by decide +kernel
theorem d_Tb_rebuild_104 : decode c_Tb_rebuild 104 = .ok (.iconst 1, 1) := by decide +kernel
theorem d_Tb_rebuild_105 : decode c_Tb_rebuild 105 = .ok (.putfield 206, 3) := by decide +kernel
theorem d_Tb_rebuild_108 : decode c_Tb_rebuild 108 = .ok (.aload_n 0, 1) := by decide +kernel
theorem d_Tb_rebuild_109 : decode c_Tb_rebuild 109 = .ok (.getfield 36, 3) := by decide +kernel
theorem d_Tb_rebuild_112 : decode c_Tb_rebuild 112 = .ok (.invokevirtual 210, 3) := by decide +kernel
theorem d_Tb_rebuild_115 : decode c_Tb_rebuild 115 = .ok (.aload_n 0, 1) := by decide +kernel
theorem d_Tb_rebuild_116 : decode c_Tb_rebuild 116 = .ok (.getfield 36, 3) := by decide +kernel
theorem d_Tb_rebuild_119 : decode c_Tb_rebuild 119 = .ok (.invokevirtual 210, 3) := by decide +kernel
theorem d_Tb_rebuild_122 : decode c_Tb_rebuild 122 = .ok (.imul, 1) := by decide +kernel
theorem d_Tb_rebuild_123 : decode c_Tb_rebuild 123 = .ok (.istore 5, 2) := by decide +kernel
theorem d_Tb_rebuild_125 : decode c_Tb_rebuild 125 = .ok (.aload_n 0, 1) := by decide +kernel
theorem d_Tb_rebuild_126 : decode c_Tb_rebuild 126 = .ok (.dup, 1) := by decide +kernel
theorem d_Tb_rebuild_127 : decode c_Tb_rebuild 127 = .ok (.getfield 54, 3) := by decide +kernel
theorem d_Tb_rebuild_130 : decode c_Tb_rebuild 130 = .ok (.iload 5, 2) := by decide +kernel
theorem d_Tb_rebuild_132 : decode c_Tb_rebuild 132 = .ok (.iadd, 1) := by decide +kernel
theorem d_Tb_rebuild_133 : decode c_Tb_rebuild 133 = .ok (.putfield 54, 3) := by decide +kernel
theorem d_Tb_rebuild_136 : decode c_Tb_rebuild 136 = .ok (.aload_n 0, 1) := by decide +kernel
theorem d_Tb_rebuild_137 : decode c_Tb_rebuild 137 = .ok (.getfield 22, 3) := by decide +kernel
theorem d_Tb_rebuild_140 : decode c_Tb_rebuild 140 = .ok (.iconst 3, 1) := by decide +kernel
theorem d_Tb_rebuild_141 : decode c_Tb_rebuild 141 = .ok (.iload_n 1, 1) := by decide +kernel
theorem d_Tb_rebuild_142 : decode c_Tb_rebuild 142 = .ok (.aload_n 0, 1) := by decide +kernel
theorem d_Tb_rebuild_143 : decode c_Tb_rebuild 143 = .ok (.getfield 44, 3) := by decide +kernel
theorem d_Tb_rebuild_146 : decode c_Tb_rebuild 146 = .ok (.invokevirtual 137, 3) := by decide +kernel
theorem d_Tb_rebuild_149 : decode c_Tb_rebuild 149 = .ok (.iload 5, 2) := by decide +kernel
theorem d_Tb_rebuild_151 : decode c_Tb_rebuild 151 = .ok (.ireturn, 1) := by decide +kernel
set_option maxHeartbeats 4000000 in
set_option maxRecDepth 100000 in
theorem m_Tb_rebuild {g0 : State} {d : zD} {l : Launch} {a0 : Array Value} (hs0 : zS0 d a0 g0) (hst : l.stackTraces = false) {G : zG} {A : Nat → Nat} {D : Nat → UInt64} {V : Nat → Nat → Int32} {nk ns : Nat} (hT : zT d A D V nk ns G) (x k w : Int32) : zMet g0 d l y_Tb_rebuild c_Tb_rebuild 6 ((Option.some Jvm.ClassFile.FieldType.int)) 12 4 24 [.ref (A 0), .int x, .int k, .int w] (G) (zTu d A nk ns V G zrI) (zTx d A nk ns V G ["java/lang/IllegalArgumentException", "java/lang/IndexOutOfBoundsException", "java/lang/IllegalStateException"]) := by
  have hG_Tb := hT.tb
  have hnk : nk ≤ 8 := hT.2.1
  have hns : ns ≤ 6 := hT.2.2.1
  refine z_entry hs0 hst (by decide) (Nat.le_of_ble_eq_true rfl) (fun p e s m args below meth c => ?_)
  refine z_aload_n 0 d_Tb_rebuild_0 rfl rfl ?_
  refine z_iload_n 1 d_Tb_rebuild_1 rfl rfl ?_
  refine z_callV (m_Tb_secretAt hs0 hst hT x) ym_Tb_secretAt qM_Tb_140 qI_Tb_secretAt qV_Tb_Tb_secretAt zc_Tb hG_Tb d_Tb_rebuild_2 rfl (Nat.le_of_ble_eq_true rfl) ⟨by decide, by decide⟩ ⟨Nat.le_of_ble_eq_true rfl, Nat.le_of_ble_eq_true rfl⟩ ?_ ?_
  · exact fun E G9 hx => by
      obtain ⟨hx1, rfl, hx3⟩ := hx
      obtain rfl : G = G9 := hx3.symm
      exact z_out ⟨by simp, D, V, hT, zKo.rf, zFr.rf⟩ (by decide) (by decide)
  intro r_2 G_2 hp_2
  obtain ⟨si, hsi, rfl, rfl, hg_2⟩ := hp_2
  obtain rfl : G = G_2 := hg_2.symm
  refine z_astore (L' := [(4, _), (0, _), (1, _), (2, _), (3, _)]) d_Tb_rebuild_5 (by decide) rfl ?_
  refine z_aload_n 1 d_Tb_rebuild_7 rfl rfl ?_
  refine z_iload_n 3 d_Tb_rebuild_8 rfl rfl ?_
  refine z_callV (m_Tb_keeperAt hs0 hst hT k) ym_Tb_keeperAt qM_Tb_86 qI_Tb_keeperAt qV_Tb_Tb_keeperAt zc_Tb hG_Tb d_Tb_rebuild_9 rfl (Nat.le_of_ble_eq_true rfl) ⟨by decide, by decide⟩ ⟨Nat.le_of_ble_eq_true rfl, Nat.le_of_ble_eq_true rfl⟩ ?_ ?_
  · exact fun E G9 hx => by
      obtain ⟨hx1, rfl, hx3⟩ := hx
      obtain rfl : G = G9 := hx3.symm
      exact z_out ⟨by simp, D, V, hT, zKo.rf, zFr.rf⟩ (by decide) (by decide)
  intro r_9 G_9 hp_9
  obtain ⟨ki, hki, rfl, rfl, hg_9⟩ := hp_9
  obtain rfl : G = G_9 := hg_9.symm
  have hk8 : ki < 8 := by omega
  refine z_pop d_Tb_rebuild_12 rfl ?_
  refine z_aload_n 1 d_Tb_rebuild_13 rfl rfl ?_
  refine z_iload_n 4 d_Tb_rebuild_14 rfl rfl ?_
  refine z_callV (m_Tb_needSet hs0 hst hT w) ym_Tb_needSet qM_Tb_101 qI_Tb_needSet qV_Tb_Tb_needSet zc_Tb hG_Tb d_Tb_rebuild_15 rfl (Nat.le_of_ble_eq_true rfl) ⟨by decide, by decide⟩ ⟨Nat.le_of_ble_eq_true rfl, Nat.le_of_ble_eq_true rfl⟩ ?_ ?_
  · exact fun E G9 hx => by
      obtain ⟨hx1, rfl, hx3⟩ := hx
      obtain rfl : G = G9 := hx3.symm
      exact z_out ⟨by simp, D, V, hT, zKo.rf, zFr.rf⟩ (by decide) (by decide)
  intro r_15 G_15 hp_15
  obtain ⟨hs_15, hr_15, hg_15⟩ := hp_15
  obtain rfl : r_15 = none := hr_15
  obtain rfl : G = G_15 := hg_15.symm
  refine z_aload 0 d_Tb_rebuild_18 rfl ?_
  refine z_iload_n 3 d_Tb_rebuild_20 rfl rfl ?_
  refine z_callV0 (m_Se_isCurrent hs0 hst (hT.se hsi) hk8) ym_Se_isCurrent qM_Tb_179 qI_Se_isCurrent qV_Se_Se_isCurrent zc_Se (hT.se hsi).1 d_Tb_rebuild_21 rfl (Nat.le_of_ble_eq_true rfl) ⟨by decide, by decide⟩ ⟨Nat.le_of_ble_eq_true rfl, Nat.le_of_ble_eq_true rfl⟩ ?_
  refine z_if_eq 37 d_Tb_rebuild_24 (by decide) (fun c_24 => ?_) (fun c_24 => ?_)
  · skip
    refine z_aload_n 1 d_Tb_rebuild_37 rfl rfl ?_
    refine z_aload 0 d_Tb_rebuild_38 rfl ?_
    refine z_iload_n 4 d_Tb_rebuild_40 rfl rfl ?_
    refine z_callVp0 (m_Tb_gatherGroup hs0 hst hT hsi w) ym_Tb_gatherGroup qM_Tb_184 qI_Tb_gatherGroup qV_Tb_Tb_gatherGroup zc_Tb hG_Tb d_Tb_rebuild_41 rfl (Nat.le_of_ble_eq_true rfl) ⟨by decide, by decide⟩ ⟨Nat.le_of_ble_eq_true rfl, Nat.le_of_ble_eq_true rfl⟩ (fun r_41 G_41 hp_41 => ?_)
    obtain ⟨hr_41, D3, V3, hT3, hK3, hF3⟩ := hp_41
    obtain rfl : r_41 = none := hr_41
    obtain ⟨q9, hq9, hg9⟩ := hT3.dec
    refine z_aload_n 1 d_Tb_rebuild_44 rfl rfl ?_
    refine z_get zc_Tb 4 (by decide) qF_Tb_36 hT3.tb rfl d_Tb_rebuild_45 ?_
    refine z_callVp0 (m_Gr_decode hs0 hst hg9 hq9) ym_Gr_decode qM_Tb_188 qI_Gr_decode qV_Gr_Gr_decode zc_Gr hT3.gr d_Tb_rebuild_48 rfl (Nat.le_of_ble_eq_true rfl) ⟨by decide, by decide⟩ ⟨Nat.le_of_ble_eq_true rfl, Nat.le_of_ble_eq_true rfl⟩ (fun r_48 G_48 hp_48 => ?_)
    obtain ⟨hr_48, hg_48⟩ := hp_48
    obtain rfl : r_48 = none := hr_48
    obtain ⟨V4, hT4, hK4, hF4⟩ := hT3.putg (V3 12 0) _ _ (p := nI q9) ⟨q9, hq9, rfl⟩
    rw [← hg_48] at hT4 hF4
    refine z_aload_n 1 d_Tb_rebuild_51 rfl rfl ?_
    refine z_get zc_Tb 4 (by decide) qF_Tb_36 hT4.tb rfl d_Tb_rebuild_52 ?_
    refine z_callV0 (m_Gr_isGood hs0 hst hT4.gA) ym_Gr_isGood qM_Tb_191 qI_Gr_isGood qV_Gr_Gr_isGood zc_Gr hT4.gr d_Tb_rebuild_55 rfl (Nat.le_of_ble_eq_true rfl) ⟨by decide, by decide⟩ ⟨Nat.le_of_ble_eq_true rfl, Nat.le_of_ble_eq_true rfl⟩ ?_
    refine z_if_ne 71 d_Tb_rebuild_58 (by decide) (fun c_58 => ?_) (fun c_58 => ?_)
    · skip
      refine z_aload 0 d_Tb_rebuild_71 rfl ?_
      refine z_iload_n 3 d_Tb_rebuild_73 rfl rfl ?_
      refine z_aload_n 1 d_Tb_rebuild_74 rfl rfl ?_
      refine z_get zc_Tb 4 (by decide) qF_Tb_36 hT4.tb rfl d_Tb_rebuild_75 ?_
      refine z_iload_n 3 d_Tb_rebuild_78 rfl rfl ?_
      refine z_callS0 (m_Tb_pointOf hs0 hst (nI ki)) ym_Tb_pointOf qM_Tb_128 qS_Tb_pointOf d_Tb_rebuild_79 rfl (Nat.le_of_ble_eq_true rfl) ⟨by decide, by decide⟩ ⟨Nat.le_of_ble_eq_true rfl, Nat.le_of_ble_eq_true rfl⟩ ?_
      refine z_callV0 (m_Gr_curveAt hs0 hst hT4.gA _) ym_Gr_curveAt qM_Tb_197 qI_Gr_curveAt qV_Gr_Gr_curveAt zc_Gr hT4.gr d_Tb_rebuild_82 rfl (Nat.le_of_ble_eq_true rfl) ⟨by decide, by decide⟩ ⟨Nat.le_of_ble_eq_true rfl, Nat.le_of_ble_eq_true rfl⟩ ?_
      refine z_callVp0 (m_Se_hold hs0 hst _ (hT4.se hsi) hk8) ym_Se_hold qM_Tb_134 qI_Se_hold qV_Se_Se_hold zc_Se (hT4.se hsi).1 d_Tb_rebuild_85 rfl (Nat.le_of_ble_eq_true rfl) ⟨by decide, by decide⟩ ⟨Nat.le_of_ble_eq_true rfl, Nat.le_of_ble_eq_true rfl⟩ (fun r_85 G_85 hp_85 => ?_)
      obtain ⟨hr_85, hg_85⟩ := hp_85
      obtain rfl : r_85 = none := hr_85
      obtain ⟨V5, hT5, hK5, hF5⟩ := hT4.sec hsi (upd (V4 (300 + si)) ki _) (upd (V4 (400 + si)) ki (V4 (200 + si) 3))
      rw [← hg_85] at hT5 hF5
      refine z_aload_n 1 d_Tb_rebuild_88 rfl rfl ?_
      refine z_aload_n 1 d_Tb_rebuild_89 rfl rfl ?_
      refine z_get zc_Tb 4 (by decide) qF_Tb_36 hT5.tb rfl d_Tb_rebuild_90 ?_
      refine z_callV0 (m_Gr_members hs0 hst hT5.gA) ym_Gr_members qM_Tb_200 qI_Gr_members qV_Gr_Gr_members zc_Gr hT5.gr d_Tb_rebuild_93 rfl (Nat.le_of_ble_eq_true rfl) ⟨by decide, by decide⟩ ⟨Nat.le_of_ble_eq_true rfl, Nat.le_of_ble_eq_true rfl⟩ ?_
      refine z_callVp0 (m_Tb_isAnyLying hs0 hst hT5 _) ym_Tb_isAnyLying qM_Tb_203 qI_Tb_isAnyLying qV_Tb_Tb_isAnyLying zc_Tb hT5.tb d_Tb_rebuild_96 rfl (Nat.le_of_ble_eq_true rfl) ⟨by decide, by decide⟩ ⟨Nat.le_of_ble_eq_true rfl, Nat.le_of_ble_eq_true rfl⟩ (fun r_96 G_96 hp_96 => ?_)
      obtain ⟨⟨v_96, rfl⟩, rfl⟩ := hp_96
      refine z_if_eq 108 d_Tb_rebuild_99 (by decide) (fun c_99 => ?_) (fun c_99 => ?_)
      · skip
        have hT6 := hT5
        have hK6 := hK5
        have hF6 := hF5
        obtain ⟨V6, eV6⟩ : ∃ V6, V6 = V5 := ⟨_, rfl⟩
        rw [← eV6] at hT6 hK6
        refine z_aload_n 1 d_Tb_rebuild_108 rfl rfl ?_
        refine z_get zc_Tb 4 (by decide) qF_Tb_36 hT6.tb rfl d_Tb_rebuild_109 ?_
        refine z_callV0 (m_Gr_size hs0 hst hT6.gA) ym_Gr_size qM_Tb_210 qI_Gr_size qV_Gr_Gr_size zc_Gr hT6.gr d_Tb_rebuild_112 rfl (Nat.le_of_ble_eq_true rfl) ⟨by decide, by decide⟩ ⟨Nat.le_of_ble_eq_true rfl, Nat.le_of_ble_eq_true rfl⟩ ?_
        refine z_aload_n 1 d_Tb_rebuild_115 rfl rfl ?_
        refine z_get zc_Tb 4 (by decide) qF_Tb_36 hT6.tb rfl d_Tb_rebuild_116 ?_
        refine z_callV0 (m_Gr_size hs0 hst hT6.gA) ym_Gr_size qM_Tb_210 qI_Gr_size qV_Gr_Gr_size zc_Gr hT6.gr d_Tb_rebuild_119 rfl (Nat.le_of_ble_eq_true rfl) ⟨by decide, by decide⟩ ⟨Nat.le_of_ble_eq_true rfl, Nat.le_of_ble_eq_true rfl⟩ ?_
        refine z_imul d_Tb_rebuild_122 ?_
        refine z_istore (L' := [(5, _), (4, _), (0, _), (1, _), (2, _), (3, _)]) d_Tb_rebuild_123 (by decide) rfl ?_
        refine z_aload_n 2 d_Tb_rebuild_125 rfl rfl ?_
        refine z_dup d_Tb_rebuild_126 rfl ?_
        refine z_get zc_Tb 9 (by decide) qF_Tb_54 hT6.tb rfl d_Tb_rebuild_127 ?_
        refine z_iload 0 d_Tb_rebuild_130 rfl ?_
        refine z_iadd d_Tb_rebuild_132 ?_
        refine z_put zc_Tb 9 (by decide) qF_Tb_54 hT6.tb rfl rfl rfl (Nat.le_of_ble_eq_true rfl) d_Tb_rebuild_133 ?_
        obtain ⟨V7, hT7, hK7, hF7⟩ := hT6.put0k (V6 0 1) (V6 0 2) (V6 0 3 + _)
        refine z_aload_n 2 d_Tb_rebuild_136 rfl rfl ?_
        refine z_get zc_Tb 2 (by decide) qF_Tb_22 hT7.tb rfl d_Tb_rebuild_137 ?_
        refine z_iconst (v := 3) d_Tb_rebuild_140 (by decide) ?_
        refine z_iload_n 3 d_Tb_rebuild_141 rfl rfl ?_
        refine z_aload_n 2 d_Tb_rebuild_142 rfl rfl ?_
        refine z_get zc_Tb 6 (by decide) qF_Tb_44 hT7.tb rfl d_Tb_rebuild_143 ?_
        refine z_callVp0 (m_Re_enterT hs0 hst hT7 _ _ _) ym_Re_enter qM_Tb_137 qI_Re_enter qV_Re_Re_enter zc_Re hT7.re d_Tb_rebuild_146 rfl (Nat.le_of_ble_eq_true rfl) ⟨by decide, by decide⟩ ⟨Nat.le_of_ble_eq_true rfl, Nat.le_of_ble_eq_true rfl⟩ (fun r_146 G_146 hp_146 => ?_)
        obtain ⟨hr_146, D8, V8, hT8, hK8, hF8⟩ := hp_146
        obtain rfl : r_146 = none := hr_146
        refine z_iload 0 d_Tb_rebuild_149 rfl ?_
        exact z_iret rfl (⟨⟨_, rfl⟩, _, _, hT8, (((hK3.tr hK4).tr hK6).tr hK7).tr hK8, (((hF3.tr hF4).tr hF6).tr hF7).tr hF8⟩) (by first | decide | omega) (by first | decide | omega) d_Tb_rebuild_151
      · skip
        refine z_aload 0 d_Tb_rebuild_102 rfl ?_
        refine z_iconst (v := 1) d_Tb_rebuild_104 (by decide) ?_
        refine z_put zc_Se 7 (by decide) qF_Tb_206 (hT5.se hsi).1 rfl rfl rfl (Nat.le_of_ble_eq_true rfl) d_Tb_rebuild_105 ?_
        obtain ⟨V6, hT6, hK6, hF6⟩ := hT5.putsk hsi (V5 (200 + si) 3) 1
        replace hK6 := hK5.tr hK6
        replace hF6 := hF5.tr hF6
        refine z_aload_n 1 d_Tb_rebuild_108 rfl rfl ?_
        refine z_get zc_Tb 4 (by decide) qF_Tb_36 hT6.tb rfl d_Tb_rebuild_109 ?_
        refine z_callV0 (m_Gr_size hs0 hst hT6.gA) ym_Gr_size qM_Tb_210 qI_Gr_size qV_Gr_Gr_size zc_Gr hT6.gr d_Tb_rebuild_112 rfl (Nat.le_of_ble_eq_true rfl) ⟨by decide, by decide⟩ ⟨Nat.le_of_ble_eq_true rfl, Nat.le_of_ble_eq_true rfl⟩ ?_
        refine z_aload_n 1 d_Tb_rebuild_115 rfl rfl ?_
        refine z_get zc_Tb 4 (by decide) qF_Tb_36 hT6.tb rfl d_Tb_rebuild_116 ?_
        refine z_callV0 (m_Gr_size hs0 hst hT6.gA) ym_Gr_size qM_Tb_210 qI_Gr_size qV_Gr_Gr_size zc_Gr hT6.gr d_Tb_rebuild_119 rfl (Nat.le_of_ble_eq_true rfl) ⟨by decide, by decide⟩ ⟨Nat.le_of_ble_eq_true rfl, Nat.le_of_ble_eq_true rfl⟩ ?_
        refine z_imul d_Tb_rebuild_122 ?_
        refine z_istore (L' := [(5, _), (4, _), (0, _), (1, _), (2, _), (3, _)]) d_Tb_rebuild_123 (by decide) rfl ?_
        refine z_aload_n 2 d_Tb_rebuild_125 rfl rfl ?_
        refine z_dup d_Tb_rebuild_126 rfl ?_
        refine z_get zc_Tb 9 (by decide) qF_Tb_54 hT6.tb rfl d_Tb_rebuild_127 ?_
        refine z_iload 0 d_Tb_rebuild_130 rfl ?_
        refine z_iadd d_Tb_rebuild_132 ?_
        refine z_put zc_Tb 9 (by decide) qF_Tb_54 hT6.tb rfl rfl rfl (Nat.le_of_ble_eq_true rfl) d_Tb_rebuild_133 ?_
        obtain ⟨V7, hT7, hK7, hF7⟩ := hT6.put0k (V6 0 1) (V6 0 2) (V6 0 3 + _)
        refine z_aload_n 2 d_Tb_rebuild_136 rfl rfl ?_
        refine z_get zc_Tb 2 (by decide) qF_Tb_22 hT7.tb rfl d_Tb_rebuild_137 ?_
        refine z_iconst (v := 3) d_Tb_rebuild_140 (by decide) ?_
        refine z_iload_n 3 d_Tb_rebuild_141 rfl rfl ?_
        refine z_aload_n 2 d_Tb_rebuild_142 rfl rfl ?_
        refine z_get zc_Tb 6 (by decide) qF_Tb_44 hT7.tb rfl d_Tb_rebuild_143 ?_
        refine z_callVp0 (m_Re_enterT hs0 hst hT7 _ _ _) ym_Re_enter qM_Tb_137 qI_Re_enter qV_Re_Re_enter zc_Re hT7.re d_Tb_rebuild_146 rfl (Nat.le_of_ble_eq_true rfl) ⟨by decide, by decide⟩ ⟨Nat.le_of_ble_eq_true rfl, Nat.le_of_ble_eq_true rfl⟩ (fun r_146 G_146 hp_146 => ?_)
        obtain ⟨hr_146, D8, V8, hT8, hK8, hF8⟩ := hp_146
        obtain rfl : r_146 = none := hr_146
        refine z_iload 0 d_Tb_rebuild_149 rfl ?_
        exact z_iret rfl (⟨⟨_, rfl⟩, _, _, hT8, (((hK3.tr hK4).tr hK6).tr hK7).tr hK8, (((hF3.tr hF4).tr hF6).tr hF7).tr hF8⟩) (by first | decide | omega) (by first | decide | omega) d_Tb_rebuild_151
    · skip
      exact z_thS (names := ["java/lang/RuntimeException", "java/lang/Exception"]) (by decide) (by decide) qK_Tb_72 qN_ISE qR_Tb_195 th_76.1 th_76.2 d_Tb_rebuild_61 d_Tb_rebuild_64 d_Tb_rebuild_65 d_Tb_rebuild_67 d_Tb_rebuild_70 (by decide) (Nat.le_of_ble_eq_true rfl) ⟨by decide, by decide⟩ (⟨by simp, _, _, hT4, hK3.tr hK4, hF3.tr hF4⟩) (by decide) (by decide)
  · skip
    exact z_thS (names := ["java/lang/RuntimeException", "java/lang/Exception"]) (by decide) (by decide) qK_Tb_72 qN_ISE qR_Tb_182 th_76.1 th_76.2 d_Tb_rebuild_27 d_Tb_rebuild_30 d_Tb_rebuild_31 d_Tb_rebuild_33 d_Tb_rebuild_36 (by decide) (Nat.le_of_ble_eq_true rfl) ⟨by decide, by decide⟩ (⟨by simp, D, V, hT, zKo.rf, zFr.rf⟩) (by decide) (by decide)

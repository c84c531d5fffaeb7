theorem d_Mo_rebuild_0 : decode c_Mo_rebuild 0 = .ok (.aload_n 0, 1) := by decide +kernel
theorem d_Mo_rebuild_1 : decode c_Mo_rebuild 1 = .ok (.iconst 0, 1) := by decide +kernel
theorem d_Mo_rebuild_2 : decode c_Mo_rebuild 2 = .ok (.putfield 36, 3) := by decide +kernel
theorem d_Mo_rebuild_5 : decode c_Mo_rebuild 5 = .ok (.aload_n 0, 1) := by decide +kernel
theorem d_Mo_rebuild_6 : decode c_Mo_rebuild 6 = .ok (.iload_n 1, 1) := by decide +kernel
theorem d_Mo_rebuild_7 : decode c_Mo_rebuild 7 = .ok (.invokevirtual 147, 3) := by decide +kernel
theorem d_Mo_rebuild_10 : decode c_Mo_rebuild 10 = .ok (.ifCond .eq 11, 3) := by decide +kernel
theorem d_Mo_rebuild_13 : decode c_Mo_rebuild 13 = .ok (.aload_n 0, 1) := by decide +kernel
theorem d_Mo_rebuild_14 : decode c_Mo_rebuild 14 = .ok (.iload_n 2, 1) := by decide +kernel
theorem d_Mo_rebuild_15 : decode c_Mo_rebuild 15 = .ok (.invokevirtual 125, 3) := by decide +kernel
theorem d_Mo_rebuild_18 : decode c_Mo_rebuild 18 = .ok (.ifCond .ne 9, 3) := by decide +kernel
theorem d_Mo_rebuild_21 : decode c_Mo_rebuild 21 = .ok (.aload_n 0, 1) := by decide +kernel
theorem d_Mo_rebuild_22 : decode c_Mo_rebuild 22 = .ok (.iconst 1, 1) := by decide +kernel
theorem d_Mo_rebuild_23 : decode c_Mo_rebuild 23 = .ok (.invokevirtual 119, 3) := by decide +kernel
theorem d_Mo_rebuild_26 : decode c_Mo_rebuild 26 = .ok (.ireturn, 1) := by decide +kernel
theorem d_Mo_rebuild_27 : decode c_Mo_rebuild 27 = .ok (.aload_n 0, 1) := by decide +kernel
theorem d_Mo_rebuild_28 : decode c_Mo_rebuild 28 = .ok (.iload_n 3, 1) := by decide +kernel
theorem d_Mo_rebuild_29 : decode c_Mo_rebuild 29 = .ok (.invokevirtual 129, 3) := by decide +kernel
theorem d_Mo_rebuild_32 : decode c_Mo_rebuild 32 = .ok (.ifCond .ne 9, 3) := by decide +kernel
theorem d_Mo_rebuild_35 : decode c_Mo_rebuild 35 = .ok (.aload_n 0, 1) := by decide +kernel
theorem d_Mo_rebuild_36 : decode c_Mo_rebuild 36 = .ok (.iconst 2, 1) := by decide +kernel
theorem d_Mo_rebuild_37 : decode c_Mo_rebuild 37 = .ok (.invokevirtual 119, 3) := by decide +kernel
theorem d_Mo_rebuild_40 : decode c_Mo_rebuild 40 = .ok (.ireturn, 1) := by decide +kernel
theorem d_Mo_rebuild_41 : decode c_Mo_rebuild 41 = .ok (.aload_n 0, 1) := by decide +kernel
theorem d_Mo_rebuild_42 : decode c_Mo_rebuild 42 = .ok (.getfield 20, 3) := by decide +kernel
theorem d_Mo_rebuild_45 : decode c_Mo_rebuild 45 = .ok (.iload_n 1, 1) := by decide +kernel
theorem d_Mo_rebuild_46 : decode c_Mo_rebuild 46 = .ok (.invokeinterface 51 2, 5) := by decide +kernel
theorem d_Mo_rebuild_51 : decode c_Mo_rebuild 51 = .ok (.checkcast 47, 3) := by decide +kernel
theorem d_Mo_rebuild_54 : decode c_Mo_rebuild 54 = .ok (.astore 4, 2) := by decide +kernel
theorem d_Mo_rebuild_56 : decode c_Mo_rebuild 56 = .ok (.aload_n 0, 1) := by decide +kernel
theorem d_Mo_rebuild_57 : decode c_Mo_rebuild 57 = .ok (.aload 4, 2) := by decide +kernel
theorem d_Mo_rebuild_59 : decode c_Mo_rebuild 59 = .ok (.iload_n 3, 1) := by decide +kernel
theorem d_Mo_rebuild_60 : decode c_Mo_rebuild 60 = .ok (.invokevirtual 150, 3) := by decide +kernel
theorem d_Mo_rebuild_63 : decode c_Mo_rebuild 63 = .ok (.iconst 1, 1) := by decide +kernel
theorem d_Mo_rebuild_64 : decode c_Mo_rebuild 64 = .ok (.iload_n 2, 1) := by decide +kernel
theorem d_Mo_rebuild_65 : decode c_Mo_rebuild 65 = .ok (.ishl, 1) := by decide +kernel
theorem d_Mo_rebuild_66 : decode c_Mo_rebuild 66 = .ok (.iconst (-1), 1) := by decide +kernel
theorem d_Mo_rebuild_67 : decode c_Mo_rebuild 67 = .ok (.ixor, 1) := by decide +kernel
theorem d_Mo_rebuild_68 : decode c_Mo_rebuild 68 = .ok (.iand, 1) := by decide +kernel
theorem d_Mo_rebuild_69 : decode c_Mo_rebuild 69 = .ok (.istore 5, 2) := by decide +kernel
theorem d_Mo_rebuild_71 : decode c_Mo_rebuild 71 = .ok (.aload 4, 2) := by decide +kernel
theorem d_Mo_rebuild_73 : decode c_Mo_rebuild 73 = .ok (.iload_n 2, 1) := by decide +kernel
theorem d_Mo_rebuild_74 : decode c_Mo_rebuild 74 = .ok (.invokevirtual 159, 3) := by decide +kernel
theorem d_Mo_rebuild_77 : decode c_Mo_rebuild 77 = .ok (.ifCond .ne 14, 3) := by decide +kernel
theorem d_Mo_rebuild_80 : decode c_Mo_rebuild 80 = .ok (.aload_n 0, 1) := by decide +kernel
theorem d_Mo_rebuild_81 : decode c_Mo_rebuild 81 = .ok (.aload 4, 2) := by decide +kernel
theorem d_Mo_rebuild_83 : decode c_Mo_rebuild 83 = .ok (.iload 5, 2) := by decide +kernel
theorem d_Mo_rebuild_85 : decode c_Mo_rebuild 85 = .ok (.invokevirtual 162, 3) := by decide +kernel
theorem d_Mo_rebuild_88 : decode c_Mo_rebuild 88 = .ok (.ifCond .ne 9, 3) := by decide +kernel
theorem d_Mo_rebuild_91 : decode c_Mo_rebuild 91 = .ok (.aload_n 0, 1) := by decide +kernel
theorem d_Mo_rebuild_92 : decode c_Mo_rebuild 92 = .ok (.iconst 3, 1) := by decide +kernel
theorem d_Mo_rebuild_93 : decode c_Mo_rebuild 93 = .ok (.invokevirtual 119, 3) := by decide +kernel
theorem d_Mo_rebuild_96 : decode c_Mo_rebuild 96 = .ok (.ireturn, 1) := by decide +kernel
theorem d_Mo_rebuild_97 : decode c_Mo_rebuild 97 = .ok (.aload 4, 2) := by decide +kernel
theorem d_Mo_rebuild_99 : decode c_Mo_rebuild 99 = .ok (.getfield 46, 3) := by decide +kernel
theorem d_Mo_rebuild_102 : decode c_Mo_rebuild 102 = .ok (.iload_n 2, 1) := by decide +kernel
theorem d_Mo_rebuild_103 : decode c_Mo_rebuild 103 = .ok (.aload_n 0, 1) := by decide +kernel
theorem d_Mo_rebuild_104 : decode c_Mo_rebuild 104 = .ok (.aload 4, 2) := by decide +kernel
theorem d_Mo_rebuild_106 : decode c_Mo_rebuild 106 = .ok (.aload_n 0, 1) := by decide +kernel
theorem d_Mo_rebuild_107 : decode c_Mo_rebuild 107 = .ok (.aload 4, 2) := by decide +kernel
theorem d_Mo_rebuild_109 : decode c_Mo_rebuild 109 = .ok (.iload 5, 2) := by decide +kernel
theorem d_Mo_rebuild_111 : decode c_Mo_rebuild 111 = .ok (.invokevirtual 91, 3) := by decide +kernel
theorem d_Mo_rebuild_114 : decode c_Mo_rebuild 114 = .ok (.iload_n 2, 1) := by decide +kernel
theorem d_Mo_rebuild_115 : decode c_Mo_rebuild 115 = .ok (.iconst 1, 1) := by decide +kernel
theorem d_Mo_rebuild_116 : decode c_Mo_rebuild 116 = .ok (.iadd, 1) := by decide +kernel
theorem d_Mo_rebuild_117 : decode c_Mo_rebuild 117 = .ok (.invokevirtual 88, 3) := by decide +kernel
theorem d_Mo_rebuild_120 : decode c_Mo_rebuild 120 = .ok (.iastore, 1) := by decide +kernel
theorem d_Mo_rebuild_121 : decode c_Mo_rebuild 121 = .ok (.aload 4, 2) := by decide +kernel
theorem d_Mo_rebuild_123 : decode c_Mo_rebuild 123 = .ok (.getfield 140, 3) := by decide +kernel
theorem d_Mo_rebuild_126 : decode c_Mo_rebuild 126 = .ok (.iload_n 2, 1) := by decide +kernel
theorem d_Mo_rebuild_127 : decode c_Mo_rebuild 127 = .ok (.aload 4, 2) := by decide +kernel
theorem d_Mo_rebuild_129 : decode c_Mo_rebuild 129 = .ok (.getfield 153, 3) := by decide +kernel
theorem d_Mo_rebuild_132 : decode c_Mo_rebuild 132 = .ok (.iastore, 1) := by decide +kernel
theorem d_Mo_rebuild_133 : decode c_Mo_rebuild 133 = .ok (.iconst 0, 1) := by decide +kernel
theorem d_Mo_rebuild_134 : decode c_Mo_rebuild 134 = .ok (.istore 6, 2) := by decide +kernel
theorem d_Mo_rebuild_136 : decode c_Mo_rebuild 136 = .ok (.iload 6, 2) := by decide +kernel
theorem d_Mo_rebuild_138 : decode c_Mo_rebuild 138 = .ok (.bipush 8, 2) := by decide +kernel
theorem d_Mo_rebuild_140 : decode c_Mo_rebuild 140 = .ok (.if_icmp .ge 54, 3) := by decide +kernel
theorem d_Mo_rebuild_143 : decode c_Mo_rebuild 143 = .ok (.aload 4, 2) := by decide +kernel
theorem d_Mo_rebuild_145 : decode c_Mo_rebuild 145 = .ok (.dup, 1) := by decide +kernel
theorem d_Mo_rebuild_146 : decode c_Mo_rebuild 146 = .ok (.getfield 165, 3) := by decide +kernel
theorem d_Mo_rebuild_149 : decode c_Mo_rebuild 149 = .ok (.iload 5, 2) := by decide +kernel
theorem d_Mo_rebuild_151 : decode c_Mo_rebuild 151 = .ok (.iload 6, 2) := by decide +kernel
theorem d_Mo_rebuild_153 : decode c_Mo_rebuild 153 = .ok (.invokestatic 76, 3) := by decide +kernel
theorem d_Mo_rebuild_156 : decode c_Mo_rebuild 156 = .ok (.ifCond .eq 27, 3) := by decide +kernel
theorem d_Mo_rebuild_159 : decode c_Mo_rebuild 159 = .ok (.aload_n 0, 1) := by decide +kernel
theorem d_Mo_rebuild_160 : decode c_Mo_rebuild 160 = .ok (.getfield 16, 3) := by decide +kernel
theorem d_Mo_rebuild_163 : decode c_Mo_rebuild 163 = .ok (.iload 6, 2) := by decide +kernel
theorem d_Mo_rebuild_165 : decode c_Mo_rebuild 165 = .ok (.invokeinterface 51 2, 5) := by decide +kernel
theorem d_Mo_rebuild_170 : decode c_Mo_rebuild 170 = .ok (.checkcast 57, 3) := by decide +kernel
theorem d_Mo_rebuild_173 : decode c_Mo_rebuild 173 = .ok (.getfield 59, 3) := by decide +kernel
theorem d_Mo_rebuild_176 : decode c_Mo_rebuild 176 = .ok (.ifCond .eq 7, 3) := by decide +kernel
theorem d_Mo_rebuild_179 : decode c_Mo_rebuild 179 = .ok (.iconst 1, 1) := by decide +kernel
theorem d_Mo_rebuild_180 : decode c_Mo_rebuild 180 = .ok (.goto 4, 3) := by decide +kernel
theorem d_Mo_rebuild_183 : decode c_Mo_rebuild 183 = .ok (.iconst 0, 1) := by decide +kernel
theorem d_Mo_rebuild_184 : decode c_Mo_rebuild 184 = .ok (.ior, 1) := by decide +kernel
theorem d_Mo_rebuild_185 : decode c_Mo_rebuild 185 = .ok (.putfield 165, 3) := by decide +kernel
theorem d_Mo_rebuild_188 : decode c_Mo_rebuild 188 = .ok (.iinc 6 1, 3) := by decide +kernel
theorem d_Mo_rebuild_191 : decode c_Mo_rebuild 191 = .ok (.goto (-55), 3) := by decide +kernel
theorem d_Mo_rebuild_194 : decode c_Mo_rebuild 194 = .ok (.aload_n 0, 1) := by decide +kernel
theorem d_Mo_rebuild_195 : decode c_Mo_rebuild 195 = .ok (.iconst 3, 1) := by decide +kernel
theorem d_Mo_rebuild_196 : decode c_Mo_rebuild 196 = .ok (.iload_n 1, 1) := by decide +kernel
theorem d_Mo_rebuild_197 : decode c_Mo_rebuild 197 = .ok (.invokevirtual 143, 3) := by decide +kernel
theorem d_Mo_rebuild_200 : decode c_Mo_rebuild 200 = .ok (.aload_n 0, 1) := by decide +kernel
theorem d_Mo_rebuild_201 : decode c_Mo_rebuild 201 = .ok (.dup, 1) := by decide +kernel
theorem d_Mo_rebuild_202 : decode c_Mo_rebuild 202 = .ok (.getfield 169, 3) := by decide +kernel
theorem d_Mo_rebuild_205 : decode c_Mo_rebuild 205 = .ok (.iload 5, 2) := by decide +kernel
theorem d_Mo_rebuild_207 : decode c_Mo_rebuild 207 = .ok (.invokestatic 66, 3) := by decide +kernel
theorem d_Mo_rebuild_210 : decode c_Mo_rebuild 210 = .ok (.iload 5, 2) := by decide +kernel
theorem d_Mo_rebuild_212 : decode c_Mo_rebuild 212 = .ok (.invokestatic 66, 3) := by decide +kernel
theorem d_Mo_rebuild_215 : decode c_Mo_rebuild 215 = .ok (.imul, 1) := by decide +kernel
theorem d_Mo_rebuild_216 : decode c_Mo_rebuild 216 = .ok (.iadd, 1) := by decide +kernel
theorem d_Mo_rebuild_217 : decode c_Mo_rebuild 217 = .ok (.putfield 169, 3) := by decide +kernel
theorem d_Mo_rebuild_220 : decode c_Mo_rebuild 220 = .ok (.iload 5, 2) := by decide +kernel
theorem d_Mo_rebuild_222 : decode c_Mo_rebuild 222 = .ok (.invokestatic 66, 3) := by decide +kernel
theorem d_Mo_rebuild_225 : decode c_Mo_rebuild 225 = .ok (.iload 5, 2) := by decide +kernel
theorem d_Mo_rebuild_227 : decode c_Mo_rebuild 227 = .ok (.invokestatic 66, 3) := by decide +kernel
theorem d_Mo_rebuild_230 : decode c_Mo_rebuild 230 = .ok (.imul, 1) := by decide +kernel
theorem d_Mo_rebuild_231 : decode c_Mo_rebuild 231 = .ok (.ireturn, 1) := by decide +kernel
set_option maxHeartbeats 4000000 in
set_option maxRecDepth 100000 in
theorem m_Mo_rebuild {g0 : State} {d : zD} {l : Launch} {a0 : Array Value} (hs0 : zS0 d a0 g0) (hst : l.stackTraces = false) {G : zG} {B : Nat → Nat} {V : Nat → Nat → Int32} {nk ns ne ec : Nat} (hM : zM d B V nk ns ne ec G) (x z set : Int32) : zMet g0 d l y_Mo_rebuild c_Mo_rebuild 7 ((Option.some Jvm.ClassFile.FieldType.int)) 16 2 84 [.ref (B 0), .int x, .int z, .int set] (G) (mTq d B nk ns ne V G zrI) (zNo) := by
  have hnk : nk ≤ 8 := hM.2.1
  have hns : ns ≤ 6 := hM.2.2.1
  have hne : ne ≤ 64 := hM.2.2.2.1
  have hp2 : 2 ^ nk ≤ 256 := Nat.pow_le_pow_right (n := 2) (by decide) hnk
  refine z_entry hs0 hst (by decide) (Nat.le_of_ble_eq_true rfl) (fun p e s m args below meth c => ?_)
  refine z_aload_n 0 d_Mo_rebuild_0 rfl rfl ?_
  refine z_iconst (v := 0) d_Mo_rebuild_1 (by decide) ?_
  refine z_put zc_Mo 0 (by decide) qF_Mo_36 hM.mo rfl rfl rfl (Nat.le_of_ble_eq_true rfl) d_Mo_rebuild_2 ?_
  obtain ⟨V1, hM1, hK1, hF1, hT1⟩ := hM.putT 0
  refine z_aload_n 0 d_Mo_rebuild_5 rfl rfl ?_
  refine z_iload_n 1 d_Mo_rebuild_6 rfl rfl ?_
  refine z_callV0 (m_Mo_isSecret hs0 hst hM1 x) ym_Mo_isSecret qM_Mo_147 qI_Mo_isSecret qV_Mo_Mo_isSecret zc_Mo hM1.mo d_Mo_rebuild_7 rfl (Nat.le_of_ble_eq_true rfl) ⟨by decide, by decide⟩ ⟨Nat.le_of_ble_eq_true rfl, Nat.le_of_ble_eq_true rfl⟩ ?_
  refine z_if_eq 21 d_Mo_rebuild_10 (by decide) (fun c_10 => ?_) (fun c_10 => ?_)
  · skip
    refine z_aload_n 0 d_Mo_rebuild_21 rfl rfl ?_
    refine z_iconst (v := 1) d_Mo_rebuild_22 (by decide) ?_
    refine z_callV0 (m_Mo_no hs0 hst hM1.mo 1) ym_Mo_no qM_Mo_119 qI_Mo_no qV_Mo_Mo_no zc_Mo hM1.mo d_Mo_rebuild_23 rfl (Nat.le_of_ble_eq_true rfl) ⟨by decide, by decide⟩ ⟨Nat.le_of_ble_eq_true rfl, Nat.le_of_ble_eq_true rfl⟩ ?_
    obtain ⟨V9, hM9, hK9, hF9, hT9⟩ := hM1.putT 1
    exact z_iret rfl (⟨⟨_, rfl⟩, B, V9, ne, ec, hM9, hK1.tr hK9, mNw.rf, hF1.tr hF9⟩) (by first | decide | omega) (by first | decide | omega) d_Mo_rebuild_26
  · skip
    obtain ⟨si, hsi, rfl⟩ := zin_n ((zb_n0 _).mp c_10) (by omega)
    refine z_aload_n 0 d_Mo_rebuild_13 rfl rfl ?_
    refine z_iload_n 2 d_Mo_rebuild_14 rfl rfl ?_
    refine z_callV0 (m_Mo_isKeeper hs0 hst hM1 z) ym_Mo_isKeeper qM_Mo_125 qI_Mo_isKeeper qV_Mo_Mo_isKeeper zc_Mo hM1.mo d_Mo_rebuild_15 rfl (Nat.le_of_ble_eq_true rfl) ⟨by decide, by decide⟩ ⟨Nat.le_of_ble_eq_true rfl, Nat.le_of_ble_eq_true rfl⟩ ?_
    refine z_if_ne 27 d_Mo_rebuild_18 (by decide) (fun c_18 => ?_) (fun c_18 => ?_)
    · skip
      obtain ⟨ki, hki, rfl⟩ := zin_n ((zb_n0 _).mp c_18) (by omega)
      have hk8 : ki < 8 := by omega
      refine z_aload_n 0 d_Mo_rebuild_27 rfl rfl ?_
      refine z_iload_n 3 d_Mo_rebuild_28 rfl rfl ?_
      refine z_callV0 (m_Mo_isSet hs0 hst hM1 set) ym_Mo_isSet qM_Mo_129 qI_Mo_isSet qV_Mo_Mo_isSet zc_Mo hM1.mo d_Mo_rebuild_29 rfl (Nat.le_of_ble_eq_true rfl) ⟨by decide, by decide⟩ ⟨Nat.le_of_ble_eq_true rfl, Nat.le_of_ble_eq_true rfl⟩ ?_
      refine z_if_ne 41 d_Mo_rebuild_32 (by decide) (fun c_32 => ?_) (fun c_32 => ?_)
      · skip
        obtain ⟨g, hg, rfl⟩ := zsetok_le hnk ((zb_n0 _).mp c_32)
        refine z_aload_n 0 d_Mo_rebuild_41 rfl rfl ?_
        refine z_get zc_Mo 7 (by decide) qF_Mo_20 hM1.mo rfl d_Mo_rebuild_42 ?_
        refine z_iload_n 1 d_Mo_rebuild_45 rfl rfl ?_
        refine z_callF0 (m_AL_get hs0 hst (hM1.sA hsi) hsi (if_pos hsi)) ym_AL_get zF_AL_get qM_Mo_51 zc_AL (hM1.sA hsi).1 d_Mo_rebuild_46 rfl (Nat.le_of_ble_eq_true rfl) ⟨by decide, by decide⟩ ⟨Nat.le_of_ble_eq_true rfl, Nat.le_of_ble_eq_true rfl⟩ ?_
        refine z_castS zc_MS qK_Mo_47 (hM1.se hsi).1 d_Mo_rebuild_51 ?_
        refine z_astore (L' := [(4, _), (0, _), (1, _), (2, _), (3, _)]) d_Mo_rebuild_54 (by decide) rfl ?_
        refine z_aload_n 1 d_Mo_rebuild_56 rfl rfl ?_
        refine z_aload 0 d_Mo_rebuild_57 rfl ?_
        refine z_iload_n 4 d_Mo_rebuild_59 rfl rfl ?_
        refine z_callVp0 ((m_Mo_groupQ hs0 hst hM1 hsi hg)) ym_Mo_group qM_Mo_150 qI_Mo_group qV_Mo_Mo_group zc_Mo hM1.mo d_Mo_rebuild_60 rfl (Nat.le_of_ble_eq_true rfl) ⟨by decide, by decide⟩ ⟨Nat.le_of_ble_eq_true rfl, Nat.le_of_ble_eq_true rfl⟩ (fun r_60 G_60 hp_60 => ?_)
        obtain ⟨⟨q9, hq9, rfl⟩, rfl⟩ := hp_60
        refine z_iconst (v := 1) d_Mo_rebuild_63 (by decide) ?_
        refine z_iload_n 3 d_Mo_rebuild_64 rfl rfl ?_
        refine z_ishl d_Mo_rebuild_65 ?_
        refine z_iconst (v := (-1)) d_Mo_rebuild_66 (by decide) ?_
        refine z_ixor d_Mo_rebuild_67 ?_
        refine z_iand d_Mo_rebuild_68 ?_
        obtain ⟨q8, hq8l, e8⟩ := zand_le2 (((1 : Int32) <<< (nI ki &&& 31)) ^^^ (-1)) (g := q9) (by omega)
        have hq8 : q8 < 2 ^ nk := by omega
        refine z_topv e8 ?_
        refine z_istore (L' := [(5, _), (4, _), (0, _), (1, _), (2, _), (3, _)]) d_Mo_rebuild_69 (by decide) rfl ?_
        refine z_aload 1 d_Mo_rebuild_71 rfl ?_
        refine z_iload_n 4 d_Mo_rebuild_73 rfl rfl ?_
        refine z_callV0 (m_MS_isGood hs0 hst (hM1.se hsi) hk8) ym_MS_isGood qM_Mo_159 qI_MS_isGood qV_MS_MS_isGood zc_MS (hM1.se hsi).1 d_Mo_rebuild_74 rfl (Nat.le_of_ble_eq_true rfl) ⟨by decide, by decide⟩ ⟨Nat.le_of_ble_eq_true rfl, Nat.le_of_ble_eq_true rfl⟩ ?_
        refine z_if_ne 91 d_Mo_rebuild_77 (by decide) (fun c_77 => ?_) (fun c_77 => ?_)
        · skip
          obtain ⟨V2, eV⟩ : ∃ v, v = V1 := ⟨_, rfl⟩
          have hM2 := hM1
          rw [← eV] at hM2
          have hK2 : zKp msc V1 V2 := by rw [eV]; exact zKp.rf
          have hF2 := hF1
          refine z_aload_n 2 d_Mo_rebuild_91 rfl rfl ?_
          refine z_iconst (v := 3) d_Mo_rebuild_92 (by decide) ?_
          refine z_callV0 (m_Mo_no hs0 hst hM2.mo 3) ym_Mo_no qM_Mo_119 qI_Mo_no qV_Mo_Mo_no zc_Mo hM2.mo d_Mo_rebuild_93 rfl (Nat.le_of_ble_eq_true rfl) ⟨by decide, by decide⟩ ⟨Nat.le_of_ble_eq_true rfl, Nat.le_of_ble_eq_true rfl⟩ ?_
          obtain ⟨V9, hM9, hK9, hF9, hT9⟩ := hM2.putT 3
          exact z_iret rfl (⟨⟨_, rfl⟩, B, V9, ne, ec, hM9, (hK1.tr hK2.m.n).tr hK9, mNw.rf, hF2.tr hF9⟩) (by first | decide | omega) (by first | decide | omega) d_Mo_rebuild_96
        · skip
          refine z_aload_n 2 d_Mo_rebuild_80 rfl rfl ?_
          refine z_aload 1 d_Mo_rebuild_81 rfl ?_
          refine z_iload 0 d_Mo_rebuild_83 rfl ?_
          refine z_callVp0 (m_Mo_isGood hs0 hst hM1 hsi hq8) ym_Mo_isGood qM_Mo_162 qI_Mo_isGood qV_Mo_Mo_isGood zc_Mo hM1.mo d_Mo_rebuild_85 rfl (Nat.le_of_ble_eq_true rfl) ⟨by decide, by decide⟩ ⟨Nat.le_of_ble_eq_true rfl, Nat.le_of_ble_eq_true rfl⟩ (fun r_85 G_85 hp_85 => ?_)
          obtain ⟨⟨b_85, rfl⟩, V2, hM2, hK2, hF2⟩ := hp_85
          replace hF2 := hF1.tr hF2
          refine z_if_ne 97 d_Mo_rebuild_88 (by decide) (fun c_88 => ?_) (fun c_88 => ?_)
          · skip
            refine z_aload 1 d_Mo_rebuild_97 rfl ?_
            refine z_get zc_MS 6 (by decide) qF_Mo_46 (hM2.se hsi).1 rfl d_Mo_rebuild_99 ?_
            refine z_iload_n 4 d_Mo_rebuild_102 rfl rfl ?_
            refine z_aload_n 2 d_Mo_rebuild_103 rfl rfl ?_
            refine z_aload 1 d_Mo_rebuild_104 rfl ?_
            refine z_aload_n 2 d_Mo_rebuild_106 rfl rfl ?_
            refine z_aload 1 d_Mo_rebuild_107 rfl ?_
            refine z_iload 0 d_Mo_rebuild_109 rfl ?_
            refine z_callVp0 (m_Mo_best hs0 hst hM2 hsi hq8) ym_Mo_best qM_Mo_91 qI_Mo_best qV_Mo_Mo_best zc_Mo hM2.mo d_Mo_rebuild_111 rfl (Nat.le_of_ble_eq_true rfl) ⟨by decide, by decide⟩ ⟨Nat.le_of_ble_eq_true rfl, Nat.le_of_ble_eq_true rfl⟩ (fun r_111 G_111 hp_111 => ?_)
            obtain ⟨⟨b3, hb3, rfl⟩, V3, hM3, hK3, hF3⟩ := hp_111
            replace hK3 := hK2.tr hK3
            replace hF3 := hF2.tr hF3
            refine z_iload_n 4 d_Mo_rebuild_114 rfl rfl ?_
            refine z_iconst (v := 1) d_Mo_rebuild_115 (by decide) ?_
            refine z_iadd d_Mo_rebuild_116 ?_
            refine z_callVp0 (m_Mo_along hs0 hst hM3 hsi hb3 _) ym_Mo_along qM_Mo_88 qI_Mo_along qV_Mo_Mo_along zc_Mo hM3.mo d_Mo_rebuild_117 rfl (Nat.le_of_ble_eq_true rfl) ⟨by decide, by decide⟩ ⟨Nat.le_of_ble_eq_true rfl, Nat.le_of_ble_eq_true rfl⟩ (fun r_117 G_117 hp_117 => ?_)
            obtain ⟨⟨v_117, rfl⟩, V4, hM4, hK4, hF4⟩ := hp_117
            replace hK4 := hK3.tr hK4
            replace hF4 := hF3.tr hF4
            refine z_iastN (hM4.se hsi).2.1 (hk8) (by decide) d_Mo_rebuild_120 ?_
            obtain ⟨V5, hM5, hK5, hF5⟩ := hM4.putsh hsi hki v_117
            refine z_aload 1 d_Mo_rebuild_121 rfl ?_
            refine z_get zc_MS 7 (by decide) qF_Mo_140 (hM5.se hsi).1 rfl d_Mo_rebuild_123 ?_
            refine z_iload_n 4 d_Mo_rebuild_126 rfl rfl ?_
            refine z_aload 1 d_Mo_rebuild_127 rfl ?_
            refine z_get zc_MS 3 (by decide) qF_Mo_153 (hM5.se hsi).1 rfl d_Mo_rebuild_129 ?_
            refine z_iastN (hM5.se hsi).2.2.1 (hk8) (by decide) d_Mo_rebuild_132 ?_
            obtain ⟨V6, hM6, hK6, hF6⟩ := hM5.putep hsi (upd (V5 (400 + si)) ki (V5 (200 + si) 3))
            replace hK6 := (hK4.m.tr hK5).tr hK6
            replace hF6 := (hF4.tr hF5).tr hF6
            refine z_iconst (v := (nI 0)) d_Mo_rebuild_133 (by decide) ?_
            refine z_istore (L' := [(6, _), (5, _), (4, _), (0, _), (1, _), (2, _), (3, _)]) d_Mo_rebuild_134 (by decide) rfl ?_
            have key_136 : ∀ (n : Nat) (i : Nat) (G7 : zG) (V7 : Nat → Nat → Int32), 8 - i < n → (i ≤ 8) → (zM d B V7 nk ns ne ec G7) → (zKm V1 V7) → (mFr B nk ns ne G G7) → Z g0 d y_Mo_rebuild c_Mo_rebuild 7 ((Option.some Jvm.ClassFile.FieldType.int)) [] p l e (zR 16 2 84) s m args below meth c (vx_MQ below (zQc g0 d (mTq d B nk ns ne V G zrI)) (zXc g0 d (zNo)) args s 2 84 (zA g0)) 0 0 (G7) [(6, .int (nI i)), (5, .int (nI q8)), (4, .ref (B (200 + si))), (0, .ref (B 0)), (1, .int (nI si)), (2, .int (nI ki)), (3, .int (nI g))] [] 136 := by
              intro n
              induction n with
              | zero => intro i G7 V7 h0; exact absurd h0 (Nat.not_lt_zero _)
              | succ n ih_136 =>
                intro i G7 V7 hm_136 hi hM7 hK7 hF7
                refine z_iload 0 d_Mo_rebuild_136 rfl ?_
                refine z_bipush (v := 8) d_Mo_rebuild_138 (by decide) ?_
                refine z_icmp_ge 194 d_Mo_rebuild_140 (by decide) (fun c_140 => ?_) (fun c_140 => ?_)
                · skip
                  refine z_aload_n 3 d_Mo_rebuild_194 rfl rfl ?_
                  refine z_iconst (v := 3) d_Mo_rebuild_195 (by decide) ?_
                  refine z_iload_n 4 d_Mo_rebuild_196 rfl rfl ?_
                  refine z_callVp1 (m_Mo_write hs0 hst hM7 _ _) ym_Mo_write qM_Mo_143 qI_Mo_write qV_Mo_Mo_write zc_Mo hM7.mo d_Mo_rebuild_197 rfl (Nat.le_of_ble_eq_true rfl) ⟨by decide, by decide⟩ ⟨Nat.le_of_ble_eq_true rfl, Nat.le_of_ble_eq_true rfl⟩ (fun r_197 G_197 hp_197 => ?_)
                  obtain ⟨hr_197, B8, V8, ne8, ec8, hM8, hK8, hN8, hF8, hB8⟩ := hp_197
                  obtain rfl : r_197 = none := hr_197
                  have hmo8 := hM8.mo
                  rw [hB8 0 (by omega) (by omega)] at hmo8
                  refine z_aload_n 3 d_Mo_rebuild_200 rfl rfl ?_
                  refine z_dup d_Mo_rebuild_201 rfl ?_
                  refine z_get zc_Mo 5 (by decide) qF_Mo_169 hmo8 rfl d_Mo_rebuild_202 ?_
                  refine z_iload 1 d_Mo_rebuild_205 rfl ?_
                  refine z_callS0 ((m_Mo_size hs0 hst (nn := q8) (by omega))) ym_Mo_size qM_Mo_66 qS_Mo_size d_Mo_rebuild_207 rfl (Nat.le_of_ble_eq_true rfl) ⟨by decide, by decide⟩ ⟨Nat.le_of_ble_eq_true rfl, Nat.le_of_ble_eq_true rfl⟩ ?_
                  refine z_iload 1 d_Mo_rebuild_210 rfl ?_
                  refine z_callS0 ((m_Mo_size hs0 hst (nn := q8) (by omega))) ym_Mo_size qM_Mo_66 qS_Mo_size d_Mo_rebuild_212 rfl (Nat.le_of_ble_eq_true rfl) ⟨by decide, by decide⟩ ⟨Nat.le_of_ble_eq_true rfl, Nat.le_of_ble_eq_true rfl⟩ ?_
                  refine z_imul d_Mo_rebuild_215 ?_
                  refine z_iadd d_Mo_rebuild_216 ?_
                  refine z_put zc_Mo 5 (by decide) qF_Mo_169 hmo8 rfl rfl rfl (Nat.le_of_ble_eq_true rfl) d_Mo_rebuild_217 ?_
                  have hend9 : zrI (some (.int (nI (zpop 9 q8) * nI (zpop 9 q8)))) := ⟨_, rfl⟩
                  have hp0 := fun a : Int32 => hM8.put0 (V8 0 0) (V8 0 1) (V8 0 2) (V8 0 3) (V8 0 4) a
                  rw [hB8 0 (by omega) (by omega)] at hp0
                  refine z_iload 1 d_Mo_rebuild_220 rfl ?_
                  refine z_callS0 ((m_Mo_size hs0 hst (nn := q8) (by omega))) ym_Mo_size qM_Mo_66 qS_Mo_size d_Mo_rebuild_222 rfl (Nat.le_of_ble_eq_true rfl) ⟨by decide, by decide⟩ ⟨Nat.le_of_ble_eq_true rfl, Nat.le_of_ble_eq_true rfl⟩ ?_
                  refine z_iload 1 d_Mo_rebuild_225 rfl ?_
                  refine z_callS0 ((m_Mo_size hs0 hst (nn := q8) (by omega))) ym_Mo_size qM_Mo_66 qS_Mo_size d_Mo_rebuild_227 rfl (Nat.le_of_ble_eq_true rfl) ⟨by decide, by decide⟩ ⟨Nat.le_of_ble_eq_true rfl, Nat.le_of_ble_eq_true rfl⟩ ?_
                  refine z_imul d_Mo_rebuild_230 ?_
                  exact z_iret rfl (⟨hend9, B8, _, ne8, ec8, (hp0 _).1, ((hK1.tr hK7.n).tr hK8.n).tr (fun r j hr hn => by
                        by_cases e : r = 0
                        · subst e
                          have hj : j = 2 := by unfold zmo_ at hr; omega
                          subst hj; rfl
                        · rw [rset_n e]), mNw.rf.tr hN8 hF7 hM.ne0, hF7.tr (hN8.fr hF8 (hp0 _).2)⟩) (by first | decide | omega) (by first | decide | omega) d_Mo_rebuild_231
                · skip
                  have hi6 : i < 8 := Nat.lt_of_not_le fun q => c_140 (nI_le (a := 8) (b := i) q (by omega))
                  refine z_aload 2 d_Mo_rebuild_143 rfl ?_
                  refine z_dup d_Mo_rebuild_145 rfl ?_
                  refine z_get zc_MS 5 (by decide) qF_Mo_165 (hM7.se hsi).1 rfl d_Mo_rebuild_146 ?_
                  refine z_iload 1 d_Mo_rebuild_149 rfl ?_
                  refine z_iload 0 d_Mo_rebuild_151 rfl ?_
                  refine z_callS0 (m_Mo_has hs0 hst (nI q8) (nI i)) ym_Mo_has qM_Mo_76 qS_Mo_has d_Mo_rebuild_153 rfl (Nat.le_of_ble_eq_true rfl) ⟨by decide, by decide⟩ ⟨Nat.le_of_ble_eq_true rfl, Nat.le_of_ble_eq_true rfl⟩ ?_
                  refine z_if_eq 183 d_Mo_rebuild_156 (by decide) (fun c_156 => ?_) (fun c_156 => ?_)
                  · skip
                    refine z_iconst (v := 0) d_Mo_rebuild_183 (by decide) ?_
                    refine z_ior d_Mo_rebuild_184 ?_
                    obtain ⟨b, eb⟩ := hM7.ta hsi
                    first
                      | refine z_topv (v := zb true) (zor_1 eb) ?_
                        obtain ⟨V7b, hM7b, hK7b, hF7b⟩ := hM7.putsk hsi (V7 (200 + si) 3) true
                        skip
                      | refine z_topv (v := zb b) (zor_0 eb) ?_
                        obtain ⟨V7b, hM7b, hK7b, hF7b⟩ := hM7.putsk hsi (V7 (200 + si) 3) b
                        skip
                    refine z_put zc_MS 5 (by decide) qF_Mo_165 (hM7.se hsi).1 rfl (zb_nar _) (zb_fit _) (Nat.le_of_ble_eq_true rfl) d_Mo_rebuild_185 ?_
                    refine z_iinc (v := nI (i + 1)) (L' := [(6, _), (5, _), (4, _), (0, _), (1, _), (2, _), (3, _)]) 0 d_Mo_rebuild_188 rfl (nI_1 i) (by decide) rfl ?_
                    refine z_goto 136 d_Mo_rebuild_191 (by decide) ?_
                    exact ih_136 (i + 1) _ _ (by omega) (by omega) hM7b (hK7.tr hK7b) (hF7.tr hF7b)
                  · skip
                    have hk6 : i < nk := zbt_lt hq8 (by omega) hi6 c_156
                    refine z_aload_n 3 d_Mo_rebuild_159 rfl rfl ?_
                    refine z_get zc_Mo 6 (by decide) qF_Mo_16 hM7.mo rfl d_Mo_rebuild_160 ?_
                    refine z_iload 0 d_Mo_rebuild_163 rfl ?_
                    refine z_callF0 (m_AL_get hs0 hst (hM7.kA hk6) hk6 (if_pos hk6)) ym_AL_get zF_AL_get qM_Mo_51 zc_AL (hM7.kA hk6).1 d_Mo_rebuild_165 rfl (Nat.le_of_ble_eq_true rfl) ⟨by decide, by decide⟩ ⟨Nat.le_of_ble_eq_true rfl, Nat.le_of_ble_eq_true rfl⟩ ?_
                    refine z_castS zc_MK qK_Mo_57 (hM7.ke hk6) d_Mo_rebuild_170 ?_
                    refine z_get zc_MK 3 (by decide) qF_Mo_59 (hM7.ke hk6) rfl d_Mo_rebuild_173 ?_
                    refine z_if_eq 183 d_Mo_rebuild_176 (by decide) (fun c_176 => ?_) (fun c_176 => ?_)
                    · skip
                      refine z_iconst (v := 0) d_Mo_rebuild_183 (by decide) ?_
                      refine z_ior d_Mo_rebuild_184 ?_
                      obtain ⟨b, eb⟩ := hM7.ta hsi
                      first
                        | refine z_topv (v := zb true) (zor_1 eb) ?_
                          obtain ⟨V7b, hM7b, hK7b, hF7b⟩ := hM7.putsk hsi (V7 (200 + si) 3) true
                          skip
                        | refine z_topv (v := zb b) (zor_0 eb) ?_
                          obtain ⟨V7b, hM7b, hK7b, hF7b⟩ := hM7.putsk hsi (V7 (200 + si) 3) b
                          skip
                      refine z_put zc_MS 5 (by decide) qF_Mo_165 (hM7.se hsi).1 rfl (zb_nar _) (zb_fit _) (Nat.le_of_ble_eq_true rfl) d_Mo_rebuild_185 ?_
                      refine z_iinc (v := nI (i + 1)) (L' := [(6, _), (5, _), (4, _), (0, _), (1, _), (2, _), (3, _)]) 0 d_Mo_rebuild_188 rfl (nI_1 i) (by decide) rfl ?_
                      refine z_goto 136 d_Mo_rebuild_191 (by decide) ?_
                      exact ih_136 (i + 1) _ _ (by omega) (by omega) hM7b (hK7.tr hK7b) (hF7.tr hF7b)
                    · skip
                      refine z_iconst (v := 1) d_Mo_rebuild_179 (by decide) ?_
                      refine z_goto 184 d_Mo_rebuild_180 (by decide) ?_
                      refine z_ior d_Mo_rebuild_184 ?_
                      obtain ⟨b, eb⟩ := hM7.ta hsi
                      first
                        | refine z_topv (v := zb true) (zor_1 eb) ?_
                          obtain ⟨V7b, hM7b, hK7b, hF7b⟩ := hM7.putsk hsi (V7 (200 + si) 3) true
                          skip
                        | refine z_topv (v := zb b) (zor_0 eb) ?_
                          obtain ⟨V7b, hM7b, hK7b, hF7b⟩ := hM7.putsk hsi (V7 (200 + si) 3) b
                          skip
                      refine z_put zc_MS 5 (by decide) qF_Mo_165 (hM7.se hsi).1 rfl (zb_nar _) (zb_fit _) (Nat.le_of_ble_eq_true rfl) d_Mo_rebuild_185 ?_
                      refine z_iinc (v := nI (i + 1)) (L' := [(6, _), (5, _), (4, _), (0, _), (1, _), (2, _), (3, _)]) 0 d_Mo_rebuild_188 rfl (nI_1 i) (by decide) rfl ?_
                      refine z_goto 136 d_Mo_rebuild_191 (by decide) ?_
                      exact ih_136 (i + 1) _ _ (by omega) (by omega) hM7b (hK7.tr hK7b) (hF7.tr hF7b)
            exact key_136 9 0 _ _ (by omega) (by omega) hM6 hK6 hF6
          · skip
            refine z_aload_n 2 d_Mo_rebuild_91 rfl rfl ?_
            refine z_iconst (v := 3) d_Mo_rebuild_92 (by decide) ?_
            refine z_callV0 (m_Mo_no hs0 hst hM2.mo 3) ym_Mo_no qM_Mo_119 qI_Mo_no qV_Mo_Mo_no zc_Mo hM2.mo d_Mo_rebuild_93 rfl (Nat.le_of_ble_eq_true rfl) ⟨by decide, by decide⟩ ⟨Nat.le_of_ble_eq_true rfl, Nat.le_of_ble_eq_true rfl⟩ ?_
            obtain ⟨V9, hM9, hK9, hF9, hT9⟩ := hM2.putT 3
            exact z_iret rfl (⟨⟨_, rfl⟩, B, V9, ne, ec, hM9, (hK1.tr hK2.m.n).tr hK9, mNw.rf, hF2.tr hF9⟩) (by first | decide | omega) (by first | decide | omega) d_Mo_rebuild_96
      · skip
        refine z_aload_n 0 d_Mo_rebuild_35 rfl rfl ?_
        refine z_iconst (v := 2) d_Mo_rebuild_36 (by decide) ?_
        refine z_callV0 (m_Mo_no hs0 hst hM1.mo 2) ym_Mo_no qM_Mo_119 qI_Mo_no qV_Mo_Mo_no zc_Mo hM1.mo d_Mo_rebuild_37 rfl (Nat.le_of_ble_eq_true rfl) ⟨by decide, by decide⟩ ⟨Nat.le_of_ble_eq_true rfl, Nat.le_of_ble_eq_true rfl⟩ ?_
        obtain ⟨V9, hM9, hK9, hF9, hT9⟩ := hM1.putT 2
        exact z_iret rfl (⟨⟨_, rfl⟩, B, V9, ne, ec, hM9, hK1.tr hK9, mNw.rf, hF1.tr hF9⟩) (by first | decide | omega) (by first | decide | omega) d_Mo_rebuild_40
    · skip
      refine z_aload_n 0 d_Mo_rebuild_21 rfl rfl ?_
      refine z_iconst (v := 1) d_Mo_rebuild_22 (by decide) ?_
      refine z_callV0 (m_Mo_no hs0 hst hM1.mo 1) ym_Mo_no qM_Mo_119 qI_Mo_no qV_Mo_Mo_no zc_Mo hM1.mo d_Mo_rebuild_23 rfl (Nat.le_of_ble_eq_true rfl) ⟨by decide, by decide⟩ ⟨Nat.le_of_ble_eq_true rfl, Nat.le_of_ble_eq_true rfl⟩ ?_
      obtain ⟨V9, hM9, hK9, hF9, hT9⟩ := hM1.putT 1
      exact z_iret rfl (⟨⟨_, rfl⟩, B, V9, ne, ec, hM9, hK1.tr hK9, mNw.rf, hF1.tr hF9⟩) (by first | decide | omega) (by first | decide | omega) d_Mo_rebuild_26
theorem d_Mo_open_0 : decode c_Mo_open 0 = .ok (.aload_n 0, 1) := by decide +kernel
theorem d_Mo_open_1 : decode c_Mo_open 1 = .ok (.iconst 0, 1) := by decide +kernel
theorem d_Mo_open_2 : decode c_Mo_open 2 = .ok (.putfield 36, 3) := by decide +kernel
theorem d_Mo_open_5 : decode c_Mo_open 5 = .ok (.aload_n 0, 1) := by decide +kernel
theorem d_Mo_open_6 : decode c_Mo_open 6 = .ok (.iload_n 1, 1) := by decide +kernel
theorem d_Mo_open_7 : decode c_Mo_open 7 = .ok (.invokevirtual 147, 3) := by decide +kernel
theorem d_Mo_open_10 : decode c_Mo_open 10 = .ok (.ifCond .ne 9, 3) := by decide +kernel
theorem d_Mo_open_13 : decode c_Mo_open 13 = .ok (.aload_n 0, 1) := by decide +kernel
theorem d_Mo_open_14 : decode c_Mo_open 14 = .ok (.iconst 1, 1) := by decide +kernel
theorem d_Mo_open_15 : decode c_Mo_open 15 = .ok (.invokevirtual 119, 3) := by decide +kernel
theorem d_Mo_open_18 : decode c_Mo_open 18 = .ok (.ireturn, 1) := by decide +kernel
theorem d_Mo_open_19 : decode c_Mo_open 19 = .ok (.aload_n 0, 1) := by decide +kernel
theorem d_Mo_open_20 : decode c_Mo_open 20 = .ok (.iload_n 2, 1) := by decide +kernel
theorem d_Mo_open_21 : decode c_Mo_open 21 = .ok (.invokevirtual 129, 3) := by decide +kernel
theorem d_Mo_open_24 : decode c_Mo_open 24 = .ok (.ifCond .ne 9, 3) := by decide +kernel
theorem d_Mo_open_27 : decode c_Mo_open 27 = .ok (.aload_n 0, 1) := by decide +kernel
theorem d_Mo_open_28 : decode c_Mo_open 28 = .ok (.iconst 2, 1) := by decide +kernel
theorem d_Mo_open_29 : decode c_Mo_open 29 = .ok (.invokevirtual 119, 3) := by decide +kernel
theorem d_Mo_open_32 : decode c_Mo_open 32 = .ok (.ireturn, 1) := by decide +kernel
theorem d_Mo_open_33 : decode c_Mo_open 33 = .ok (.aload_n 0, 1) := by decide +kernel
theorem d_Mo_open_34 : decode c_Mo_open 34 = .ok (.getfield 20, 3) := by decide +kernel
theorem d_Mo_open_37 : decode c_Mo_open 37 = .ok (.iload_n 1, 1) := by decide +kernel
theorem d_Mo_open_38 : decode c_Mo_open 38 = .ok (.invokeinterface 51 2, 5) := by decide +kernel
theorem d_Mo_open_43 : decode c_Mo_open 43 = .ok (.checkcast 47, 3) := by decide +kernel
theorem d_Mo_open_46 : decode c_Mo_open 46 = .ok (.astore_n 3, 1) := by decide +kernel
theorem d_Mo_open_47 : decode c_Mo_open 47 = .ok (.aload_n 0, 1) := by decide +kernel
theorem d_Mo_open_48 : decode c_Mo_open 48 = .ok (.aload_n 3, 1) := by decide +kernel
theorem d_Mo_open_49 : decode c_Mo_open 49 = .ok (.iload_n 2, 1) := by decide +kernel
theorem d_Mo_open_50 : decode c_Mo_open 50 = .ok (.invokevirtual 150, 3) := by decide +kernel
theorem d_Mo_open_53 : decode c_Mo_open 53 = .ok (.istore 4, 2) := by decide +kernel
theorem d_Mo_open_55 : decode c_Mo_open 55 = .ok (.aload_n 0, 1) := by decide +kernel
theorem d_Mo_open_56 : decode c_Mo_open 56 = .ok (.aload_n 3, 1) := by decide +kernel
theorem d_Mo_open_57 : decode c_Mo_open 57 = .ok (.iload 4, 2) := by decide +kernel
theorem d_Mo_open_59 : decode c_Mo_open 59 = .ok (.invokevirtual 172, 3) := by decide +kernel
theorem d_Mo_open_62 : decode c_Mo_open 62 = .ok (.ifCond .ne 21, 3) := by decide +kernel
theorem d_Mo_open_65 : decode c_Mo_open 65 = .ok (.aload_n 0, 1) := by decide +kernel
theorem d_Mo_open_66 : decode c_Mo_open 66 = .ok (.dup, 1) := by decide +kernel
theorem d_Mo_open_67 : decode c_Mo_open 67 = .ok (.getfield 175, 3) := by decide +kernel
theorem d_Mo_open_70 : decode c_Mo_open 70 = .ok (.iconst 1, 1) := by decide +kernel
theorem d_Mo_open_71 : decode c_Mo_open 71 = .ok (.iadd, 1) := by decide +kernel
theorem d_Mo_open_72 : decode c_Mo_open 72 = .ok (.putfield 175, 3) := by decide +kernel
theorem d_Mo_open_75 : decode c_Mo_open 75 = .ok (.aload_n 0, 1) := by decide +kernel
theorem d_Mo_open_76 : decode c_Mo_open 76 = .ok (.iconst 5, 1) := by decide +kernel
theorem d_Mo_open_77 : decode c_Mo_open 77 = .ok (.iload_n 1, 1) := by decide +kernel
theorem d_Mo_open_78 : decode c_Mo_open 78 = .ok (.invokevirtual 143, 3) := by decide +kernel
theorem d_Mo_open_81 : decode c_Mo_open 81 = .ok (.iconst (-1), 1) := by decide +kernel
theorem d_Mo_open_82 : decode c_Mo_open 82 = .ok (.ireturn, 1) := by decide +kernel
theorem d_Mo_open_83 : decode c_Mo_open 83 = .ok (.aload_n 0, 1) := by decide +kernel
theorem d_Mo_open_84 : decode c_Mo_open 84 = .ok (.aload_n 3, 1) := by decide +kernel
theorem d_Mo_open_85 : decode c_Mo_open 85 = .ok (.iload 4, 2) := by decide +kernel
theorem d_Mo_open_87 : decode c_Mo_open 87 = .ok (.invokevirtual 162, 3) := by decide +kernel
theorem d_Mo_open_90 : decode c_Mo_open 90 = .ok (.ifCond .ne 23, 3) := by decide +kernel
theorem d_Mo_open_93 : decode c_Mo_open 93 = .ok (.aload_n 0, 1) := by decide +kernel
theorem d_Mo_open_94 : decode c_Mo_open 94 = .ok (.dup, 1) := by decide +kernel
theorem d_Mo_open_95 : decode c_Mo_open 95 = .ok (.getfield 178, 3) := by decide +kernel
theorem d_Mo_open_98 : decode c_Mo_open 98 = .ok (.iconst 1, 1) := by decide +kernel
theorem d_Mo_open_99 : decode c_Mo_open 99 = .ok (.iadd, 1) := by decide +kernel
theorem d_Mo_open_100 : decode c_Mo_open 100 = .ok (.putfield 178, 3) := by decide +kernel
theorem d_Mo_open_103 : decode c_Mo_open 103 = .ok (.aload_n 0, 1) := by decide +kernel
theorem d_Mo_open_104 : decode c_Mo_open 104 = .ok (.bipush 6, 2) := by decide +kernel
theorem d_Mo_open_106 : decode c_Mo_open 106 = .ok (.iload_n 1, 1) := by decide +kernel
theorem d_Mo_open_107 : decode c_Mo_open 107 = .ok (.invokevirtual 143, 3) := by decide +kernel
theorem d_Mo_open_110 : decode c_Mo_open 110 = .ok (.bipush (-2), 2) := by decide +kernel
theorem d_Mo_open_112 : decode c_Mo_open 112 = .ok (.ireturn, 1) := by decide +kernel
theorem d_Mo_open_113 : decode c_Mo_open 113 = .ok (.aload_n 0, 1) := by decide +kernel
theorem d_Mo_open_114 : decode c_Mo_open 114 = .ok (.aload_n 3, 1) := by decide +kernel
theorem d_Mo_open_115 : decode c_Mo_open 115 = .ok (.iload 4, 2) := by decide +kernel
theorem d_Mo_open_117 : decode c_Mo_open 117 = .ok (.invokevirtual 181, 3) := by decide +kernel
theorem d_Mo_open_120 : decode c_Mo_open 120 = .ok (.istore 5, 2) := by decide +kernel
theorem d_Mo_open_122 : decode c_Mo_open 122 = .ok (.iconst 0, 1) := by decide +kernel
theorem d_Mo_open_123 : decode c_Mo_open 123 = .ok (.istore 6, 2) := by decide +kernel
theorem d_Mo_open_125 : decode c_Mo_open 125 = .ok (.iload 6, 2) := by decide +kernel
theorem d_Mo_open_127 : decode c_Mo_open 127 = .ok (.aload_n 0, 1) := by decide +kernel
theorem d_Mo_open_128 : decode c_Mo_open 128 = .ok (.getfield 16, 3) := by decide +kernel
theorem d_Mo_open_131 : decode c_Mo_open 131 = .ok (.invokeinterface 94 1, 5) := by decide +kernel
theorem d_Mo_open_136 : decode c_Mo_open 136 = .ok (.if_icmp .ge 38, 3) := by decide +kernel
theorem d_Mo_open_139 : decode c_Mo_open 139 = .ok (.aload_n 0, 1) := by decide +kernel
theorem d_Mo_open_140 : decode c_Mo_open 140 = .ok (.getfield 16, 3) := by decide +kernel
theorem d_Mo_open_143 : decode c_Mo_open 143 = .ok (.iload 6, 2) := by decide +kernel
theorem d_Mo_open_145 : decode c_Mo_open 145 = .ok (.invokeinterface 51 2, 5) := by decide +kernel
theorem d_Mo_open_150 : decode c_Mo_open 150 = .ok (.checkcast 57, 3) := by decide +kernel
theorem d_Mo_open_153 : decode c_Mo_open 153 = .ok (.dup, 1) := by decide +kernel
theorem d_Mo_open_154 : decode c_Mo_open 154 = .ok (.getfield 184, 3) := by decide +kernel
theorem d_Mo_open_157 : decode c_Mo_open 157 = .ok (.iload 5, 2) := by decide +kernel
theorem d_Mo_open_159 : decode c_Mo_open 159 = .ok (.iload 6, 2) := by decide +kernel
theorem d_Mo_open_161 : decode c_Mo_open 161 = .ok (.invokestatic 76, 3) := by decide +kernel
theorem d_Mo_open_164 : decode c_Mo_open 164 = .ok (.ior, 1) := by decide +kernel
theorem d_Mo_open_165 : decode c_Mo_open 165 = .ok (.putfield 184, 3) := by decide +kernel
theorem d_Mo_open_168 : decode c_Mo_open 168 = .ok (.iinc 6 1, 3) := by decide +kernel
theorem d_Mo_open_171 : decode c_Mo_open 171 = .ok (.goto (-46), 3) := by decide +kernel
theorem d_Mo_open_174 : decode c_Mo_open 174 = .ok (.aload_n 0, 1) := by decide +kernel
theorem d_Mo_open_175 : decode c_Mo_open 175 = .ok (.iconst 4, 1) := by decide +kernel
theorem d_Mo_open_176 : decode c_Mo_open 176 = .ok (.iload_n 1, 1) := by decide +kernel
theorem d_Mo_open_177 : decode c_Mo_open 177 = .ok (.invokevirtual 143, 3) := by decide +kernel
theorem d_Mo_open_180 : decode c_Mo_open 180 = .ok (.aload_n 0, 1) := by decide +kernel
theorem d_Mo_open_181 : decode c_Mo_open 181 = .ok (.aload_n 3, 1) := by decide +kernel
theorem d_Mo_open_182 : decode c_Mo_open 182 = .ok (.iload 4, 2) := by decide +kernel
theorem d_Mo_open_184 : decode c_Mo_open 184 = .ok (.invokevirtual 187, 3) := by decide +kernel
theorem d_Mo_open_187 : decode c_Mo_open 187 = .ok (.ireturn, 1) := by decide +kernel
set_option maxHeartbeats 4000000 in
set_option maxRecDepth 100000 in
theorem m_Mo_open {g0 : State} {d : zD} {l : Launch} {a0 : Array Value} (hs0 : zS0 d a0 g0) (hst : l.stackTraces = false) {G : zG} {B : Nat → Nat} {V : Nat → Nat → Int32} {nk ns ne ec : Nat} (hM : zM d B V nk ns ne ec G) (x set : Int32) : zMet g0 d l y_Mo_open c_Mo_open 7 ((Option.some Jvm.ClassFile.FieldType.int)) 16 2 84 [.ref (B 0), .int x, .int set] (G) (mTq d B nk ns ne V G zrI) (zNo) := by
  have hnk : nk ≤ 8 := hM.2.1
  have hns : ns ≤ 6 := hM.2.2.1
  have hne : ne ≤ 64 := hM.2.2.2.1
  have hp2 : 2 ^ nk ≤ 256 := Nat.pow_le_pow_right (n := 2) (by decide) hnk
  refine z_entry hs0 hst (by decide) (Nat.le_of_ble_eq_true rfl) (fun p e s m args below meth c => ?_)
  refine z_aload_n 0 d_Mo_open_0 rfl rfl ?_
  refine z_iconst (v := 0) d_Mo_open_1 (by decide) ?_
  refine z_put zc_Mo 0 (by decide) qF_Mo_36 hM.mo rfl rfl rfl (Nat.le_of_ble_eq_true rfl) d_Mo_open_2 ?_
  obtain ⟨V1, hM1, hK1, hF1, hT1⟩ := hM.putT 0
  refine z_aload_n 0 d_Mo_open_5 rfl rfl ?_
  refine z_iload_n 1 d_Mo_open_6 rfl rfl ?_
  refine z_callV0 (m_Mo_isSecret hs0 hst hM1 x) ym_Mo_isSecret qM_Mo_147 qI_Mo_isSecret qV_Mo_Mo_isSecret zc_Mo hM1.mo d_Mo_open_7 rfl (Nat.le_of_ble_eq_true rfl) ⟨by decide, by decide⟩ ⟨Nat.le_of_ble_eq_true rfl, Nat.le_of_ble_eq_true rfl⟩ ?_
  refine z_if_ne 19 d_Mo_open_10 (by decide) (fun c_10 => ?_) (fun c_10 => ?_)
  · skip
    obtain ⟨si, hsi, rfl⟩ := zin_n ((zb_n0 _).mp c_10) (by omega)
    refine z_aload_n 0 d_Mo_open_19 rfl rfl ?_
    refine z_iload_n 2 d_Mo_open_20 rfl rfl ?_
    refine z_callV0 (m_Mo_isSet hs0 hst hM1 set) ym_Mo_isSet qM_Mo_129 qI_Mo_isSet qV_Mo_Mo_isSet zc_Mo hM1.mo d_Mo_open_21 rfl (Nat.le_of_ble_eq_true rfl) ⟨by decide, by decide⟩ ⟨Nat.le_of_ble_eq_true rfl, Nat.le_of_ble_eq_true rfl⟩ ?_
    refine z_if_ne 33 d_Mo_open_24 (by decide) (fun c_24 => ?_) (fun c_24 => ?_)
    · skip
      obtain ⟨g, hg, rfl⟩ := zsetok_le hnk ((zb_n0 _).mp c_24)
      refine z_aload_n 0 d_Mo_open_33 rfl rfl ?_
      refine z_get zc_Mo 7 (by decide) qF_Mo_20 hM1.mo rfl d_Mo_open_34 ?_
      refine z_iload_n 1 d_Mo_open_37 rfl rfl ?_
      refine z_callF0 (m_AL_get hs0 hst (hM1.sA hsi) hsi (if_pos hsi)) ym_AL_get zF_AL_get qM_Mo_51 zc_AL (hM1.sA hsi).1 d_Mo_open_38 rfl (Nat.le_of_ble_eq_true rfl) ⟨by decide, by decide⟩ ⟨Nat.le_of_ble_eq_true rfl, Nat.le_of_ble_eq_true rfl⟩ ?_
      refine z_castS zc_MS qK_Mo_47 (hM1.se hsi).1 d_Mo_open_43 ?_
      refine z_astore_n (L' := [(3, _), (0, _), (1, _), (2, _)]) d_Mo_open_46 rfl (by decide) rfl ?_
      refine z_aload_n 1 d_Mo_open_47 rfl rfl ?_
      refine z_aload_n 0 d_Mo_open_48 rfl rfl ?_
      refine z_iload_n 3 d_Mo_open_49 rfl rfl ?_
      refine z_callVp0 ((m_Mo_groupQ hs0 hst hM1 hsi hg)) ym_Mo_group qM_Mo_150 qI_Mo_group qV_Mo_Mo_group zc_Mo hM1.mo d_Mo_open_50 rfl (Nat.le_of_ble_eq_true rfl) ⟨by decide, by decide⟩ ⟨Nat.le_of_ble_eq_true rfl, Nat.le_of_ble_eq_true rfl⟩ (fun r_50 G_50 hp_50 => ?_)
      obtain ⟨⟨q9, hq9, rfl⟩, rfl⟩ := hp_50
      refine z_istore (L' := [(4, _), (3, _), (0, _), (1, _), (2, _)]) d_Mo_open_53 (by decide) rfl ?_
      refine z_aload_n 2 d_Mo_open_55 rfl rfl ?_
      refine z_aload_n 1 d_Mo_open_56 rfl rfl ?_
      refine z_iload 0 d_Mo_open_57 rfl ?_
      refine z_callVp0 (m_Mo_isLawful hs0 hst hM1 hsi _) ym_Mo_isLawful qM_Mo_172 qI_Mo_isLawful qV_Mo_Mo_isLawful zc_Mo hM1.mo d_Mo_open_59 rfl (Nat.le_of_ble_eq_true rfl) ⟨by decide, by decide⟩ ⟨Nat.le_of_ble_eq_true rfl, Nat.le_of_ble_eq_true rfl⟩ (fun r_59 G_59 hp_59 => ?_)
      obtain ⟨⟨b_59, rfl⟩, rfl⟩ := hp_59
      refine z_if_ne 83 d_Mo_open_62 (by decide) (fun c_62 => ?_) (fun c_62 => ?_)
      · skip
        refine z_aload_n 2 d_Mo_open_83 rfl rfl ?_
        refine z_aload_n 1 d_Mo_open_84 rfl rfl ?_
        refine z_iload 0 d_Mo_open_85 rfl ?_
        refine z_callVp0 (m_Mo_isGood hs0 hst hM1 hsi hq9) ym_Mo_isGood qM_Mo_162 qI_Mo_isGood qV_Mo_Mo_isGood zc_Mo hM1.mo d_Mo_open_87 rfl (Nat.le_of_ble_eq_true rfl) ⟨by decide, by decide⟩ ⟨Nat.le_of_ble_eq_true rfl, Nat.le_of_ble_eq_true rfl⟩ (fun r_87 G_87 hp_87 => ?_)
        obtain ⟨⟨b_87, rfl⟩, V2, hM2, hK2, hF2⟩ := hp_87
        replace hF2 := hF1.tr hF2
        refine z_if_ne 113 d_Mo_open_90 (by decide) (fun c_90 => ?_) (fun c_90 => ?_)
        · skip
          refine z_aload_n 2 d_Mo_open_113 rfl rfl ?_
          refine z_aload_n 1 d_Mo_open_114 rfl rfl ?_
          refine z_iload 0 d_Mo_open_115 rfl ?_
          refine z_callVp0 (m_Mo_liars hs0 hst hM2 hsi hq9) ym_Mo_liars qM_Mo_181 qI_Mo_liars qV_Mo_Mo_liars zc_Mo hM2.mo d_Mo_open_117 rfl (Nat.le_of_ble_eq_true rfl) ⟨by decide, by decide⟩ ⟨Nat.le_of_ble_eq_true rfl, Nat.le_of_ble_eq_true rfl⟩ (fun r_117 G_117 hp_117 => ?_)
          obtain ⟨⟨v_117, rfl⟩, V4, hM4, hK4, hF4⟩ := hp_117
          replace hK4 := hK2.tr hK4
          replace hF4 := hF2.tr hF4
          refine z_istore (L' := [(5, _), (4, _), (3, _), (0, _), (1, _), (2, _)]) d_Mo_open_120 (by decide) rfl ?_
          refine z_iconst (v := (nI 0)) d_Mo_open_122 (by decide) ?_
          refine z_istore (L' := [(6, _), (5, _), (4, _), (3, _), (0, _), (1, _), (2, _)]) d_Mo_open_123 (by decide) rfl ?_
          have key_125 : ∀ (n : Nat) (i : Nat) (G4 : zG) (V4 : Nat → Nat → Int32), nk - i < n → (i ≤ nk) → (zM d B V4 nk ns ne ec G4) → (zKm V1 V4) → (mFr B nk ns ne G G4) → Z g0 d y_Mo_open c_Mo_open 7 ((Option.some Jvm.ClassFile.FieldType.int)) [] p l e (zR 16 2 84) s m args below meth c (vx_MQ below (zQc g0 d (mTq d B nk ns ne V G zrI)) (zXc g0 d (zNo)) args s 2 84 (zA g0)) 0 0 (G4) [(6, .int (nI i)), (5, .int v_117), (4, .int (nI q9)), (3, .ref (B (200 + si))), (0, .ref (B 0)), (1, .int (nI si)), (2, .int (nI g))] [] 125 := by
            intro n
            induction n with
            | zero => intro i G4 V4 h0; exact absurd h0 (Nat.not_lt_zero _)
            | succ n ih_125 =>
              intro i G4 V4 hm_125 hi hM4 hK4 hF4
              refine z_iload 0 d_Mo_open_125 rfl ?_
              refine z_aload_n 4 d_Mo_open_127 rfl rfl ?_
              refine z_get zc_Mo 6 (by decide) qF_Mo_16 hM4.mo rfl d_Mo_open_128 ?_
              refine z_callF0 (m_AL_size hs0 hst hM4.kl) ym_AL_size zF_AL_size qM_Mo_94 zc_AL hM4.kl d_Mo_open_131 rfl (Nat.le_of_ble_eq_true rfl) ⟨by decide, by decide⟩ ⟨Nat.le_of_ble_eq_true rfl, Nat.le_of_ble_eq_true rfl⟩ ?_
              refine z_icmp_ge 174 d_Mo_open_136 (by decide) (fun c_136 => ?_) (fun c_136 => ?_)
              · skip
                refine z_aload_n 4 d_Mo_open_174 rfl rfl ?_
                refine z_iconst (v := 4) d_Mo_open_175 (by decide) ?_
                refine z_iload_n 5 d_Mo_open_176 rfl rfl ?_
                refine z_callVp1 (m_Mo_write hs0 hst hM4 _ _) ym_Mo_write qM_Mo_143 qI_Mo_write qV_Mo_Mo_write zc_Mo hM4.mo d_Mo_open_177 rfl (Nat.le_of_ble_eq_true rfl) ⟨by decide, by decide⟩ ⟨Nat.le_of_ble_eq_true rfl, Nat.le_of_ble_eq_true rfl⟩ (fun r_177 G_177 hp_177 => ?_)
                obtain ⟨hr_177, B5, V5, ne5, ec5, hM5, hK5, hN5, hF5, hB5⟩ := hp_177
                obtain rfl : r_177 = none := hr_177
                have hfound := m_Mo_found hs0 hst hM5 hsi hq9
                have hmo5 := hM5.mo
                rw [hB5 0 (by omega) (by omega), hB5 (200 + si) (by omega) (by omega)] at hfound
                rw [hB5 0 (by omega) (by omega)] at hmo5
                refine z_aload_n 4 d_Mo_open_180 rfl rfl ?_
                refine z_aload_n 3 d_Mo_open_181 rfl rfl ?_
                refine z_iload 2 d_Mo_open_182 rfl ?_
                refine z_callVp1 (hfound) ym_Mo_found qM_Mo_187 qI_Mo_found qV_Mo_Mo_found zc_Mo hmo5 d_Mo_open_184 rfl (Nat.le_of_ble_eq_true rfl) ⟨by decide, by decide⟩ ⟨Nat.le_of_ble_eq_true rfl, Nat.le_of_ble_eq_true rfl⟩ (fun r_184 G_184 hp_184 => ?_)
                obtain ⟨⟨v_184, rfl⟩, V6, hM6, hK6, hF6⟩ := hp_184
                exact z_iret rfl (⟨⟨_, rfl⟩, B5, V6, ne5, ec5, hM6, ((hK1.tr hK4.n).tr hK5.n).tr hK6.m.n, mNw.rf.tr hN5 hF4 hM.ne0, hF4.tr (hN5.fr hF5 hF6)⟩) (by first | decide | omega) (by first | decide | omega) d_Mo_open_187
              · skip
                have hi6 : i < nk := Nat.lt_of_not_le fun q => c_136 (nI_le q (by omega))
                refine z_aload_n 4 d_Mo_open_139 rfl rfl ?_
                refine z_get zc_Mo 6 (by decide) qF_Mo_16 hM4.mo rfl d_Mo_open_140 ?_
                refine z_iload 0 d_Mo_open_143 rfl ?_
                refine z_callF0 (m_AL_get hs0 hst (hM4.kA hi6) hi6 (if_pos hi6)) ym_AL_get zF_AL_get qM_Mo_51 zc_AL (hM4.kA hi6).1 d_Mo_open_145 rfl (Nat.le_of_ble_eq_true rfl) ⟨by decide, by decide⟩ ⟨Nat.le_of_ble_eq_true rfl, Nat.le_of_ble_eq_true rfl⟩ ?_
                refine z_castS zc_MK qK_Mo_57 (hM4.ke hi6) d_Mo_open_150 ?_
                refine z_dup d_Mo_open_153 rfl ?_
                refine z_get zc_MK 4 (by decide) qF_Mo_184 (hM4.ke hi6) rfl d_Mo_open_154 ?_
                refine z_iload 1 d_Mo_open_157 rfl ?_
                refine z_iload 0 d_Mo_open_159 rfl ?_
                refine z_callS0 (m_Mo_has hs0 hst v_117 (nI i)) ym_Mo_has qM_Mo_76 qS_Mo_has d_Mo_open_161 rfl (Nat.le_of_ble_eq_true rfl) ⟨by decide, by decide⟩ ⟨Nat.le_of_ble_eq_true rfl, Nat.le_of_ble_eq_true rfl⟩ ?_
                refine z_ior d_Mo_open_164 ?_
                obtain ⟨b, eb⟩ := hM4.no hi6
                refine z_topv (v := zb (b || decide (zbit v_117 (nI i) = 1))) (zor_bb eb _) ?_
                obtain ⟨V4b, hM4b, hK4b, hF4b⟩ := hM4.putkk hi6 (b || decide (zbit v_117 (nI i) = 1))
                refine z_put zc_MK 4 (by decide) qF_Mo_184 (hM4.ke hi6) rfl (zb_nar _) (zb_fit _) (Nat.le_of_ble_eq_true rfl) d_Mo_open_165 ?_
                refine z_iinc (v := nI (i + 1)) (L' := [(6, _), (5, _), (4, _), (3, _), (0, _), (1, _), (2, _)]) 0 d_Mo_open_168 rfl (nI_1 i) (by decide) rfl ?_
                refine z_goto 125 d_Mo_open_171 (by decide) ?_
                exact ih_125 (i + 1) _ _ (by omega) (by omega) hM4b (hK4.tr hK4b) (hF4.tr hF4b)
          exact key_125 (nk + 1) 0 _ _ (by omega) (by omega) hM4 hK4.m hF4
        · skip
          refine z_aload_n 2 d_Mo_open_93 rfl rfl ?_
          refine z_dup d_Mo_open_94 rfl ?_
          refine z_get zc_Mo 4 (by decide) qF_Mo_178 hM2.mo rfl d_Mo_open_95 ?_
          refine z_iconst (v := 1) d_Mo_open_98 (by decide) ?_
          refine z_iadd d_Mo_open_99 ?_
          refine z_put zc_Mo 4 (by decide) qF_Mo_178 hM2.mo rfl rfl rfl (Nat.le_of_ble_eq_true rfl) d_Mo_open_100 ?_
          obtain ⟨V3, hM3, hK3, hF3⟩ := hM2.put0k (V2 0 1) (V2 0 3) (V2 0 4 + 1) (V2 0 5)
          replace hK3 := hK2.m.tr hK3
          replace hF3 := hF2.tr hF3
          refine z_aload_n 2 d_Mo_open_103 rfl rfl ?_
          refine z_bipush (v := 6) d_Mo_open_104 (by decide) ?_
          refine z_iload_n 3 d_Mo_open_106 rfl rfl ?_
          refine z_callVp1 (m_Mo_write hs0 hst hM3 _ _) ym_Mo_write qM_Mo_143 qI_Mo_write qV_Mo_Mo_write zc_Mo hM3.mo d_Mo_open_107 rfl (Nat.le_of_ble_eq_true rfl) ⟨by decide, by decide⟩ ⟨Nat.le_of_ble_eq_true rfl, Nat.le_of_ble_eq_true rfl⟩ (fun r_107 G_107 hp_107 => ?_)
          obtain ⟨hr_107, B7, V7, ne7, ec7, hM7, hK7, hN7, hF7, hB7⟩ := hp_107
          obtain rfl : r_107 = none := hr_107
          refine z_bipush (v := (-2)) d_Mo_open_110 (by decide) ?_
          exact z_iret rfl (⟨⟨_, rfl⟩, B7, V7, ne7, ec7, hM7, (hK1.tr hK3.n).tr hK7.n, mNw.rf.tr hN7 (hF3) hM.ne0, (hF3).tr hF7⟩) (by first | decide | omega) (by first | decide | omega) d_Mo_open_112
      · skip
        refine z_aload_n 2 d_Mo_open_65 rfl rfl ?_
        refine z_dup d_Mo_open_66 rfl ?_
        refine z_get zc_Mo 3 (by decide) qF_Mo_175 hM1.mo rfl d_Mo_open_67 ?_
        refine z_iconst (v := 1) d_Mo_open_70 (by decide) ?_
        refine z_iadd d_Mo_open_71 ?_
        refine z_put zc_Mo 3 (by decide) qF_Mo_175 hM1.mo rfl rfl rfl (Nat.le_of_ble_eq_true rfl) d_Mo_open_72 ?_
        obtain ⟨V3, hM3, hK3, hF3⟩ := hM1.put0k (V1 0 1) (V1 0 3 + 1) (V1 0 4) (V1 0 5)
        replace hF3 := hF1.tr hF3
        refine z_aload_n 2 d_Mo_open_75 rfl rfl ?_
        refine z_iconst (v := 5) d_Mo_open_76 (by decide) ?_
        refine z_iload_n 3 d_Mo_open_77 rfl rfl ?_
        refine z_callVp1 (m_Mo_write hs0 hst hM3 _ _) ym_Mo_write qM_Mo_143 qI_Mo_write qV_Mo_Mo_write zc_Mo hM3.mo d_Mo_open_78 rfl (Nat.le_of_ble_eq_true rfl) ⟨by decide, by decide⟩ ⟨Nat.le_of_ble_eq_true rfl, Nat.le_of_ble_eq_true rfl⟩ (fun r_78 G_78 hp_78 => ?_)
        obtain ⟨hr_78, B7, V7, ne7, ec7, hM7, hK7, hN7, hF7, hB7⟩ := hp_78
        obtain rfl : r_78 = none := hr_78
        refine z_iconst (v := (-1)) d_Mo_open_81 (by decide) ?_
        exact z_iret rfl (⟨⟨_, rfl⟩, B7, V7, ne7, ec7, hM7, (hK1.tr hK3.n).tr hK7.n, mNw.rf.tr hN7 (hF3) hM.ne0, (hF3).tr hF7⟩) (by first | decide | omega) (by first | decide | omega) d_Mo_open_82
    · skip
      refine z_aload_n 0 d_Mo_open_27 rfl rfl ?_
      refine z_iconst (v := 2) d_Mo_open_28 (by decide) ?_
      refine z_callV0 (m_Mo_no hs0 hst hM1.mo 2) ym_Mo_no qM_Mo_119 qI_Mo_no qV_Mo_Mo_no zc_Mo hM1.mo d_Mo_open_29 rfl (Nat.le_of_ble_eq_true rfl) ⟨by decide, by decide⟩ ⟨Nat.le_of_ble_eq_true rfl, Nat.le_of_ble_eq_true rfl⟩ ?_
      obtain ⟨V9, hM9, hK9, hF9, hT9⟩ := hM1.putT 2
      exact z_iret rfl (⟨⟨_, rfl⟩, B, V9, ne, ec, hM9, hK1.tr hK9, mNw.rf, hF1.tr hF9⟩) (by first | decide | omega) (by first | decide | omega) d_Mo_open_32
  · skip
    refine z_aload_n 0 d_Mo_open_13 rfl rfl ?_
    refine z_iconst (v := 1) d_Mo_open_14 (by decide) ?_
    refine z_callV0 (m_Mo_no hs0 hst hM1.mo 1) ym_Mo_no qM_Mo_119 qI_Mo_no qV_Mo_Mo_no zc_Mo hM1.mo d_Mo_open_15 rfl (Nat.le_of_ble_eq_true rfl) ⟨by decide, by decide⟩ ⟨Nat.le_of_ble_eq_true rfl, Nat.le_of_ble_eq_true rfl⟩ ?_
    obtain ⟨V9, hM9, hK9, hF9, hT9⟩ := hM1.putT 1
    exact z_iret rfl (⟨⟨_, rfl⟩, B, V9, ne, ec, hM9, hK1.tr hK9, mNw.rf, hF1.tr hF9⟩) (by first | decide | omega) (by first | decide | omega) d_Mo_open_18
